/-! ===== moves, night ===== -/
def canB (R : DR) (w : Nat → Nat) (t k : Nat) : Bool := (R 9 (w t)).testBit k && letN R k (R 13 t) && decide (fillN R w k (R 1 0) + R 14 t ≤ R 3 k)
def prcN (R : DR) (a c t : Nat) : Nat := if (R 12 (6 * a + c)).testBit t then 0 else R 5 c
def putW (w : Nat → Nat) (t k : Nat) : Nat → Nat := fun i => if i = t then k else w i
def fallB (R : DR) (w : Nat → Nat) (t : Nat) : Bool := decide (R 10 (w t) ≠ 9) && decide (R 14 t ≤ R 11 (w t)) && decide (fillN R w (R 10 (w t)) (R 1 0) + R 14 t ≤ R 3 (R 10 (w t)))
def fallW (R : DR) (w : Nat → Nat) (t : Nat) : Nat → Nat := if fallB R w t then putW w t (R 10 (w t)) else w
def ngW (R : DR) (w : Nat → Nat) : Nat → Nat → Nat
  | 0 => w
  | j + 1 => fallW R (ngW R w j) j
def ngC (R : DR) (w : Nat → Nat) : Nat → Nat
  | 0 => 0
  | j + 1 => ngC R w j + if fallB R (ngW R w j) j then 1 else 0
theorem ngC_le (R : DR) (w : Nat → Nat) : ∀ j, ngC R w j ≤ j
  | 0 => Nat.le_refl _
  | j + 1 => by
    have := ngC_le R w j
    unfold ngC
    split <;> omega
theorem fallW_lt {R : DR} (hD : Dat R) {w : Nat → Nat} {t : Nat} (ht : t < R 1 0) (hw : ∀ t, t < R 1 0 → w t < R 0 0) : ∀ i, i < R 1 0 → fallW R w t i < R 0 0 := by
  intro i hi
  have h6 := hD.1
  have hwt := hw t ht
  unfold fallW
  by_cases hf : fallB R w t = true
  · rw [if_pos hf]
    unfold putW
    split
    · have h9 : R 10 (w t) ≠ 9 := by
        unfold fallB at hf
        simp only [Bool.and_eq_true, decide_eq_true_eq] at hf
        exact hf.1.1
      exact (hD.2.2.2.2.1 (w t) (by omega)).2.2.2.1.resolve_right h9
    · exact hw i hi
  · rw [if_neg hf]
    exact hw i hi
theorem ngW_lt {R : DR} (hD : Dat R) {w : Nat → Nat} (hw : ∀ t, t < R 1 0 → w t < R 0 0) : ∀ j, j ≤ R 1 0 → ∀ i, i < R 1 0 → ngW R w j i < R 0 0
  | 0, _ => hw
  | j + 1, hj => fallW_lt hD (by omega) (ngW_lt hD hw j (by omega))
section MOV
variable {b s : Nat} {sc : pw_E} {mem : pw_M} {R : DR} {w : Nat → Nat} {p : Int32} {d : Nat} {e K T : Nat} {h : Hst}
set_option maxHeartbeats 4000000 in
theorem x_moves_no (hS : St b s sc mem) (hX : XD mem b R) (hL : XL mem b R) (hD : Dat R) (hN : XN mem 13 (R 1 0) w p d) (hw : ∀ t, t < R 1 0 → w t < R 0 0) {t k : Nat} (ht : t < R 1 0) (hk : k < R 0 0) (hc : canB R w t k = false) : Rf 3 mX5_moves [.ref 9, .int (nI t), .int (nI k)] mem (some (.int (-2))) mem := by
  have h6 := hD.1
  have hT := hD.2.1
  have hwt := hw t ht
  have d13 := hD.2.2.2.2.2.2 t ht
  refine Ret.of (by decide) (Nat.le_of_ble_eq_true rfl) fun l G => ?_
  show PW _ _ _ _ [(0, _), (1, _), (2, _)] _ _ _
  refine PW.aload_n rfl rfl dX5_moves_0 ?_
  refine PW.iload_n rfl rfl dX5_moves_1 ?_
  refine PW.cV (ci := 5) (j := 0) _ hS.1 (by decide) rfl kX5_122 (x_isThing hS hX hD _) rfl rfl (Nat.le_of_ble_eq_true rfl) rfl ⟨by decide, by decide⟩ ⟨Nat.zero_le _, Nat.zero_le _⟩ dX5_moves_2 ?_
  refine PW.if_eqB 16 (by decide) dX5_moves_5 (fun hc5 => by first | (rw [inR_nI ht (by omega)] at hc5; cases hc5) | (rw [inR_nI hk (by omega)] at hc5; cases hc5) | (unfold canB at hc; rw [hc50, hc5] at hc; cases hc)) (fun hc5 => ?_)
  refine PW.aload_n rfl rfl dX5_moves_8 ?_
  refine PW.iload_n rfl rfl dX5_moves_9 ?_
  refine PW.cV (ci := 5) (j := 0) _ hS.1 (by decide) rfl kX5_93 (x_isPocket hS hX hD _) rfl rfl (Nat.le_of_ble_eq_true rfl) rfl ⟨by decide, by decide⟩ ⟨Nat.zero_le _, Nat.zero_le _⟩ dX5_moves_10 ?_
  refine PW.if_neB 18 (by decide) dX5_moves_13 (fun hc13 => ?_) (fun hc13 => by first | (rw [inR_nI ht (by omega)] at hc13; cases hc13) | (rw [inR_nI hk (by omega)] at hc13; cases hc13) | (unfold canB at hc; rw [hc50, hc13] at hc; cases hc))
  refine PW.aload_n rfl rfl dX5_moves_18 ?_
  refine PW.gR hS.1 (by decide) rfl fX5_19 dX5_moves_19 ?_
  refine PW.gR hS.1 (by decide) rfl fX5_134 dX5_moves_22 ?_
  refine PW.iload_n rfl rfl dX5_moves_25 ?_
  refine PW.aI hS.1 (by decide) rfl (by exact rfl) ⟨by omega, by decide⟩ (by first | exact hN.1 _ ht | exact (hX.2.2.2.2.2.2 _ ht).1 | exact (hX.2.2.2.2.2.2 _ ht).2.1 | exact rfl) dX5_moves_26 ?_
  refine PW.istore_n rfl (by decide) dX5_moves_27 (?_ : PW _ _ _ _ [(0, _), (1, _), (2, _), (3, _)] _ _ _)
  refine PW.aload_n rfl rfl dX5_moves_28 ?_
  refine PW.gV hS.1 (by decide) rfl hS.2.1 fX5_58 dX5_moves_29 ?_
  refine PW.gR hS.1 (by have := hS.b; omega) (skR13 hS.b) fX5_125 dX5_moves_32 ?_
  refine PW.iload_n rfl rfl dX5_moves_35 ?_
  refine PW.aI hS.1 (by have := hS.b; omega) (akR17 hS.b) (by exact rfl) ⟨by omega, by decide⟩ (by first | exact hN.1 _ ht | exact (hX.2.2.2.2.2.2 _ ht).1 | exact (hX.2.2.2.2.2.2 _ ht).2.1 | exact rfl) dX5_moves_36 ?_
  refine PW.istore (by decide) dX5_moves_37 (?_ : PW _ _ _ _ [(0, _), (1, _), (2, _), (3, _), (4, _)] _ _ _)
  refine PW.aload_n rfl rfl dX5_moves_39 ?_
  refine PW.gV hS.1 (by decide) rfl hS.2.1 fX5_58 dX5_moves_40 ?_
  refine PW.iload_n rfl rfl dX5_moves_43 ?_
  refine PW.iload_n rfl rfl dX5_moves_44 ?_
  refine PW.iload rfl dX5_moves_45 ?_
  refine PW.cV (ci := 2) (j := 0) _ hS.1 (by have := hS.b; omega) (skR0 hS.b) kX5_163 (x_opens hS hS.b hX hL hD hwt hk d13.1) rfl rfl (Nat.le_of_ble_eq_true rfl) rfl ⟨by decide, by decide⟩ ⟨Nat.zero_le _, Nat.zero_le _⟩ dX5_moves_47 ?_
  refine PW.if_eqB 70 (by decide) dX5_moves_50 (fun hc50 => ?_) (fun hc50 => ?_)
  · refine PW.bipush (v := -2) (by decide) dX5_moves_70 ?_
    refine PW.iret rfl (Nat.le_refl _) (Nat.le_refl _) dX5_moves_72 ?_
    exact ⟨rfl, rfl⟩
  · refine PW.aload_n rfl rfl dX5_moves_53 ?_
    refine PW.iload_n rfl rfl dX5_moves_54 ?_
    refine PW.aload_n rfl rfl dX5_moves_55 ?_
    refine PW.gV hS.1 (by decide) rfl hS.2.1 fX5_58 dX5_moves_56 ?_
    refine PW.gR hS.1 (by have := hS.b; omega) (skR14 hS.b) fX5_128 dX5_moves_59 ?_
    refine PW.iload_n rfl rfl dX5_moves_62 ?_
    refine PW.aI hS.1 (by have := hS.b; omega) (akR18 hS.b) (by exact rfl) ⟨by omega, by decide⟩ (by first | exact hN.1 _ ht | exact (hX.2.2.2.2.2.2 _ ht).1 | exact (hX.2.2.2.2.2.2 _ ht).2.1 | exact rfl) dX5_moves_63 ?_
    refine PW.cV (ci := 5) (j := 0) _ hS.1 (by decide) rfl kX5_166 (x_hasRoom hS hX hD hN hw hk d13.2.2.1) rfl rfl (Nat.le_of_ble_eq_true rfl) rfl ⟨by decide, by decide⟩ ⟨Nat.zero_le _, Nat.zero_le _⟩ dX5_moves_64 ?_
    refine PW.if_neB 73 (by decide) dX5_moves_67 (fun hc67 => by first | (rw [inR_nI ht (by omega)] at hc67; cases hc67) | (rw [inR_nI hk (by omega)] at hc67; cases hc67) | (unfold canB at hc; rw [hc50, hc67] at hc; cases hc)) (fun hc67 => ?_)
    refine PW.bipush (v := -2) (by decide) dX5_moves_70 ?_
    refine PW.iret rfl (Nat.le_refl _) (Nat.le_refl _) dX5_moves_72 ?_
    exact ⟨rfl, rfl⟩
set_option maxHeartbeats 4000000 in
theorem x_moves_bad (hS : St b s sc mem) (hX : XD mem b R) (hD : Dat R) (t k : Int32) (hc : (inR t (R 1 0) && inR k (R 0 0)) = false) : Rf 3 mX5_moves [.ref 9, .int t, .int k] mem (some (.int (-1))) mem := by
  refine Ret.of (by decide) (Nat.le_of_ble_eq_true rfl) fun l G => ?_
  show PW _ _ _ _ [(0, _), (1, _), (2, _)] _ _ _
  refine PW.aload_n rfl rfl dX5_moves_0 ?_
  refine PW.iload_n rfl rfl dX5_moves_1 ?_
  refine PW.cV (ci := 5) (j := 0) _ hS.1 (by decide) rfl kX5_122 (x_isThing hS hX hD _) rfl rfl (Nat.le_of_ble_eq_true rfl) rfl ⟨by decide, by decide⟩ ⟨Nat.zero_le _, Nat.zero_le _⟩ dX5_moves_2 ?_
  refine PW.if_eqB 16 (by decide) dX5_moves_5 (fun hc5 => ?_) (fun hc5 => ?_)
  · refine PW.iconst (v := -1) (by decide) dX5_moves_16 ?_
    refine PW.iret rfl (Nat.le_refl _) (Nat.le_refl _) dX5_moves_17 ?_
    exact ⟨rfl, rfl⟩
  · refine PW.aload_n rfl rfl dX5_moves_8 ?_
    refine PW.iload_n rfl rfl dX5_moves_9 ?_
    refine PW.cV (ci := 5) (j := 0) _ hS.1 (by decide) rfl kX5_93 (x_isPocket hS hX hD _) rfl rfl (Nat.le_of_ble_eq_true rfl) rfl ⟨by decide, by decide⟩ ⟨Nat.zero_le _, Nat.zero_le _⟩ dX5_moves_10 ?_
    refine PW.if_neB 18 (by decide) dX5_moves_13 (fun hc13 => by (rw [hc5, hc13] at hc; cases hc)) (fun hc13 => ?_)
    refine PW.iconst (v := -1) (by decide) dX5_moves_16 ?_
    refine PW.iret rfl (Nat.le_refl _) (Nat.le_refl _) dX5_moves_17 ?_
    exact ⟨rfl, rfl⟩
set_option maxHeartbeats 4000000 in
theorem x_moves_ok (hS : St b s sc mem) (hX : XD mem b R) (hL : XL mem b R) (hD : Dat R) (hN : XN mem 13 (R 1 0) w p d) (hH : HX mem (R 1 0) K T h) (hw : ∀ t, t < R 1 0 → w t < R 0 0) {t k : Nat} (ht : t < R 1 0) (hk : k < R 0 0) (hc : canB R w t k = true) : Ret 3 0 0 mX5_moves [.ref 9, .int (nI t), .int (nI k)] mem (fun u m1 => u = some (.int (nI (prcN R (w t) k (R 13 t)))) ∧ St b s sc m1 ∧ Ag (fun q => q ≠ 15 ∧ q ≠ 13 ∧ q ≠ 14 ∧ (q < 17 ∨ 36 < q)) mem m1 ∧ HX m1 (R 1 0) (hK1 K + 1) (if T + 1 < 10 then T + 1 else 0) (hpush K h (w, p, d)) ∧ XN m1 13 (R 1 0) (putW w t k) (p + nI (prcN R (w t) k (R 13 t))) d) := by
  have h6 := hD.1
  have hT := hD.2.1
  have hwt := hw t ht
  have d13 := hD.2.2.2.2.2.2 t ht
  have hb := hS.b
  have hcs := hc
  unfold canB at hcs
  simp only [Bool.and_eq_true] at hcs
  refine Ret.of (by decide) (Nat.le_of_ble_eq_true rfl) fun l G => ?_
  show PW _ _ _ _ [(0, _), (1, _), (2, _)] _ _ _
  refine PW.aload_n rfl rfl dX5_moves_0 ?_
  refine PW.iload_n rfl rfl dX5_moves_1 ?_
  refine PW.cV (ci := 5) (j := 0) _ hS.1 (by decide) rfl kX5_122 (x_isThing hS hX hD _) rfl rfl (Nat.le_of_ble_eq_true rfl) rfl ⟨by decide, by decide⟩ ⟨Nat.zero_le _, Nat.zero_le _⟩ dX5_moves_2 ?_
  refine PW.if_eqB 16 (by decide) dX5_moves_5 (fun hc5 => by first | (rw [inR_nI ht (by omega)] at hc5; cases hc5) | (rw [inR_nI hk (by omega)] at hc5; cases hc5) | (rw [hcs.1.1, hcs.1.2] at hc5; cases hc5) | (rw [hcs.2] at hc5; cases hc5)) (fun hc5 => ?_)
  refine PW.aload_n rfl rfl dX5_moves_8 ?_
  refine PW.iload_n rfl rfl dX5_moves_9 ?_
  refine PW.cV (ci := 5) (j := 0) _ hS.1 (by decide) rfl kX5_93 (x_isPocket hS hX hD _) rfl rfl (Nat.le_of_ble_eq_true rfl) rfl ⟨by decide, by decide⟩ ⟨Nat.zero_le _, Nat.zero_le _⟩ dX5_moves_10 ?_
  refine PW.if_neB 18 (by decide) dX5_moves_13 (fun hc13 => ?_) (fun hc13 => by first | (rw [inR_nI ht (by omega)] at hc13; cases hc13) | (rw [inR_nI hk (by omega)] at hc13; cases hc13) | (rw [hcs.1.1, hcs.1.2] at hc13; cases hc13) | (rw [hcs.2] at hc13; cases hc13))
  refine PW.aload_n rfl rfl dX5_moves_18 ?_
  refine PW.gR hS.1 (by decide) rfl fX5_19 dX5_moves_19 ?_
  refine PW.gR hS.1 (by decide) rfl fX5_134 dX5_moves_22 ?_
  refine PW.iload_n rfl rfl dX5_moves_25 ?_
  refine PW.aI hS.1 (by decide) rfl (by exact rfl) ⟨by omega, by decide⟩ (by first | exact hN.1 _ ht | exact (hX.2.2.2.2.2.2 _ ht).1 | exact (hX.2.2.2.2.2.2 _ ht).2.1 | exact rfl) dX5_moves_26 ?_
  refine PW.istore_n rfl (by decide) dX5_moves_27 (?_ : PW _ _ _ _ [(0, _), (1, _), (2, _), (3, _)] _ _ _)
  refine PW.aload_n rfl rfl dX5_moves_28 ?_
  refine PW.gV hS.1 (by decide) rfl hS.2.1 fX5_58 dX5_moves_29 ?_
  refine PW.gR hS.1 (by have := hS.b; omega) (skR13 hS.b) fX5_125 dX5_moves_32 ?_
  refine PW.iload_n rfl rfl dX5_moves_35 ?_
  refine PW.aI hS.1 (by have := hS.b; omega) (akR17 hS.b) (by exact rfl) ⟨by omega, by decide⟩ (by first | exact hN.1 _ ht | exact (hX.2.2.2.2.2.2 _ ht).1 | exact (hX.2.2.2.2.2.2 _ ht).2.1 | exact rfl) dX5_moves_36 ?_
  refine PW.istore (by decide) dX5_moves_37 (?_ : PW _ _ _ _ [(0, _), (1, _), (2, _), (3, _), (4, _)] _ _ _)
  refine PW.aload_n rfl rfl dX5_moves_39 ?_
  refine PW.gV hS.1 (by decide) rfl hS.2.1 fX5_58 dX5_moves_40 ?_
  refine PW.iload_n rfl rfl dX5_moves_43 ?_
  refine PW.iload_n rfl rfl dX5_moves_44 ?_
  refine PW.iload rfl dX5_moves_45 ?_
  refine PW.cV (ci := 2) (j := 0) _ hS.1 (by have := hS.b; omega) (skR0 hS.b) kX5_163 (x_opens hS hS.b hX hL hD hwt hk d13.1) rfl rfl (Nat.le_of_ble_eq_true rfl) rfl ⟨by decide, by decide⟩ ⟨Nat.zero_le _, Nat.zero_le _⟩ dX5_moves_47 ?_
  refine PW.if_eqB 70 (by decide) dX5_moves_50 (fun hc50 => by first | (rw [inR_nI ht (by omega)] at hc50; cases hc50) | (rw [inR_nI hk (by omega)] at hc50; cases hc50) | (rw [hcs.1.1, hcs.1.2] at hc50; cases hc50) | (rw [hcs.2] at hc50; cases hc50)) (fun hc50 => ?_)
  refine PW.aload_n rfl rfl dX5_moves_53 ?_
  refine PW.iload_n rfl rfl dX5_moves_54 ?_
  refine PW.aload_n rfl rfl dX5_moves_55 ?_
  refine PW.gV hS.1 (by decide) rfl hS.2.1 fX5_58 dX5_moves_56 ?_
  refine PW.gR hS.1 (by have := hS.b; omega) (skR14 hS.b) fX5_128 dX5_moves_59 ?_
  refine PW.iload_n rfl rfl dX5_moves_62 ?_
  refine PW.aI hS.1 (by have := hS.b; omega) (akR18 hS.b) (by exact rfl) ⟨by omega, by decide⟩ (by first | exact hN.1 _ ht | exact (hX.2.2.2.2.2.2 _ ht).1 | exact (hX.2.2.2.2.2.2 _ ht).2.1 | exact rfl) dX5_moves_63 ?_
  refine PW.cV (ci := 5) (j := 0) _ hS.1 (by decide) rfl kX5_166 (x_hasRoom hS hX hD hN hw hk d13.2.2.1) rfl rfl (Nat.le_of_ble_eq_true rfl) rfl ⟨by decide, by decide⟩ ⟨Nat.zero_le _, Nat.zero_le _⟩ dX5_moves_64 ?_
  refine PW.if_neB 73 (by decide) dX5_moves_67 (fun hc67 => ?_) (fun hc67 => by first | (rw [inR_nI ht (by omega)] at hc67; cases hc67) | (rw [inR_nI hk (by omega)] at hc67; cases hc67) | (rw [hcs.1.1, hcs.1.2] at hc67; cases hc67) | (rw [hcs.2] at hc67; cases hc67))
  refine PW.aload_n rfl rfl dX5_moves_73 ?_
  refine PW.gR hS.1 (by decide) rfl fX5_26 dX5_moves_74 ?_
  refine PW.aload_n rfl rfl dX5_moves_77 ?_
  refine PW.gR hS.1 (by decide) rfl fX5_19 dX5_moves_78 ?_
  refine PW.dV (ci := 1) (j := 0) _ hS.1 (by decide) rfl kX5_169 (x_pushH hS hT hH hN) rfl rfl (Nat.le_of_ble_eq_true rfl) rfl ⟨by decide, by decide⟩ ⟨Nat.zero_le _, Nat.zero_le _⟩ dX5_moves_81 (fun v m1 q => ?_)
  obtain ⟨rfl, hS, hA, hH'⟩ := q
  have hX' := hX.ag hA (fun q h1 h2 => ⟨by omega, by omega⟩)
  have hN' := hN.ag hA ⟨by decide, by decide⟩ ⟨by decide, by decide⟩
  refine PW.aload_n rfl rfl dX5_moves_84 ?_
  refine PW.gV hS.1 (by decide) rfl hS.2.1 fX5_58 dX5_moves_85 ?_
  refine PW.iload_n rfl rfl dX5_moves_88 ?_
  refine PW.iload_n rfl rfl dX5_moves_89 ?_
  refine PW.iload rfl dX5_moves_90 ?_
  refine PW.cV (ci := 2) (j := 0) _ hS.1 (by have := hS.b; omega) (skR0 hS.b) kX5_173 (x_price hS hS.b hX' hD hwt hk d13.1) rfl rfl (Nat.le_of_ble_eq_true rfl) rfl ⟨by decide, by decide⟩ ⟨Nat.zero_le _, Nat.zero_le _⟩ dX5_moves_92 ?_
  refine PW.istore (by decide) dX5_moves_95 (?_ : PW _ _ _ _ [(0, _), (1, _), (2, _), (3, _), (4, _), (5, _)] _ _ _)
  refine PW.aload_n rfl rfl dX5_moves_97 ?_
  refine PW.gR hS.1 (by decide) rfl fX5_19 dX5_moves_98 ?_
  refine PW.gR hS.1 (by decide) rfl fX5_134 dX5_moves_101 ?_
  refine PW.iload_n rfl rfl dX5_moves_104 ?_
  refine PW.iload_n rfl rfl dX5_moves_105 ?_
  refine PW.uI hS (by decide) rfl (by exact rfl) ⟨by omega, by decide⟩ dX5_moves_106 (fun hS hw106 => ?_)
  refine PW.aload_n rfl rfl dX5_moves_107 ?_
  refine PW.gR hS.1 (by decide) rfl fX5_19 dX5_moves_108 ?_
  refine PW.dup rfl dX5_moves_111 ?_
  refine PW.gI hS.1 (by decide) rfl (fi_wI.trans hN'.2.1) fX5_153 dX5_moves_112 ?_
  refine PW.iload rfl dX5_moves_115 ?_
  refine PW.iadd dX5_moves_117 ?_
  refine PW.tI hS (by decide) rfl pX5_153 dX5_moves_118 (fun hS hw118 => ?_)
  refine PW.iload rfl dX5_moves_121 ?_
  refine PW.iret rfl (Nat.le_refl _) (Nat.le_refl _) dX5_moves_123 ?_
  refine ⟨rfl, hS, ((hA.mono (fun q h => ⟨h.1, h.2.2.2⟩)).tr (Ag.wI (fun h => h.2.2.1 rfl))).tr (Ag.wF (fun h => h.2.1 rfl)), (hH'.ag (A := fun q => q ≠ 14) (Ag.wI (fun h => h rfl)) (by decide) (fun q h1 h2 => by omega)).ag (A := fun q => q ≠ 13) (Ag.wF (fun h => h rfl)) (by decide) (fun q h1 h2 => by omega), fun i hi => ?_, hw118, ?_⟩
  · rw [iv_wF, hw106]
    unfold putW
    split
    · rfl
    · exact hN'.1 i hi
  · rw [fi_wF_ne (Or.inr (by decide)), fi_wI]; exact hN'.2.2
set_option maxHeartbeats 4000000 in
theorem m_moves_bad (hS : St b s sc mem) (hM : MD mem R) (hD : Dat R) (t k : Int32) (hc : (inR t (R 1 0) && inR k (R 0 0)) = false) : Rf 5 mX6_moves [.ref 95, .int t, .int k] mem (some (.int (-1))) mem := by
  refine Ret.of (by decide) (Nat.le_of_ble_eq_true rfl) fun l G => ?_
  show PW _ _ _ _ [(0, _), (1, _), (2, _)] _ _ _
  refine PW.aload_n rfl rfl dX6_moves_0 ?_
  refine PW.iload_n rfl rfl dX6_moves_1 ?_
  refine PW.cV (ci := 6) (j := 0) _ hS.1 (by decide) rfl kX6_193 (m_isThing hS hM hD _) rfl rfl (Nat.le_of_ble_eq_true rfl) rfl ⟨by decide, by decide⟩ ⟨Nat.zero_le _, Nat.zero_le _⟩ dX6_moves_2 ?_
  refine PW.if_eqB 16 (by decide) dX6_moves_5 (fun hc5 => ?_) (fun hc5 => ?_)
  · refine PW.iconst (v := -1) (by decide) dX6_moves_16 ?_
    refine PW.iret rfl (Nat.le_refl _) (Nat.le_refl _) dX6_moves_17 ?_
    exact ⟨rfl, rfl⟩
  · refine PW.aload_n rfl rfl dX6_moves_8 ?_
    refine PW.iload_n rfl rfl dX6_moves_9 ?_
    refine PW.cV (ci := 6) (j := 0) _ hS.1 (by decide) rfl kX6_178 (m_isPocket hS hM hD _) rfl rfl (Nat.le_of_ble_eq_true rfl) rfl ⟨by decide, by decide⟩ ⟨Nat.zero_le _, Nat.zero_le _⟩ dX6_moves_10 ?_
    refine PW.if_neB 18 (by decide) dX6_moves_13 (fun hc13 => by (rw [hc5, hc13] at hc; cases hc)) (fun hc13 => ?_)
    refine PW.iconst (v := -1) (by decide) dX6_moves_16 ?_
    refine PW.iret rfl (Nat.le_refl _) (Nat.le_refl _) dX6_moves_17 ?_
    exact ⟨rfl, rfl⟩
set_option maxHeartbeats 4000000 in
theorem m_moves_no (hS : St b s sc mem) (hM : MD mem R) (hD : Dat R) (hN : MN mem (R 1 0) w p d) (hw : ∀ t, t < R 1 0 → w t < R 0 0) {t k : Nat} (ht : t < R 1 0) (hk : k < R 0 0) (hc : canB R w t k = false) : Rf 5 mX6_moves [.ref 95, .int (nI t), .int (nI k)] mem (some (.int (-2))) mem := by
  have h6 := hD.1
  have hT := hD.2.1
  have hp := pow6 h6
  have hwt := hw t ht
  have d13 := hD.2.2.2.2.2.2 t ht
  have hl := pockN_lt R (R 13 t) (R 0 0)
  have hpb := pockN_bit R (R 13 t) (R 0 0) k
  rw [decide_eq_true hk, Bool.true_and] at hpb
  refine Ret.of (by decide) (Nat.le_of_ble_eq_true rfl) fun l G => ?_
  show PW _ _ _ _ [(0, _), (1, _), (2, _)] _ _ _
  refine PW.aload_n rfl rfl dX6_moves_0 ?_
  refine PW.iload_n rfl rfl dX6_moves_1 ?_
  refine PW.cV (ci := 6) (j := 0) _ hS.1 (by decide) rfl kX6_193 (m_isThing hS hM hD _) rfl rfl (Nat.le_of_ble_eq_true rfl) rfl ⟨by decide, by decide⟩ ⟨Nat.zero_le _, Nat.zero_le _⟩ dX6_moves_2 ?_
  refine PW.if_eqB 16 (by decide) dX6_moves_5 (fun hc5 => by first | (rw [inR_nI ht (by omega)] at hc5; cases hc5) | (rw [inR_nI hk (by omega)] at hc5; cases hc5) | (unfold canB at hc; rw [hc34, ← hpb, hc51, hc5] at hc; cases hc)) (fun hc5 => ?_)
  refine PW.aload_n rfl rfl dX6_moves_8 ?_
  refine PW.iload_n rfl rfl dX6_moves_9 ?_
  refine PW.cV (ci := 6) (j := 0) _ hS.1 (by decide) rfl kX6_178 (m_isPocket hS hM hD _) rfl rfl (Nat.le_of_ble_eq_true rfl) rfl ⟨by decide, by decide⟩ ⟨Nat.zero_le _, Nat.zero_le _⟩ dX6_moves_10 ?_
  refine PW.if_neB 18 (by decide) dX6_moves_13 (fun hc13 => ?_) (fun hc13 => by first | (rw [inR_nI ht (by omega)] at hc13; cases hc13) | (rw [inR_nI hk (by omega)] at hc13; cases hc13) | (unfold canB at hc; rw [hc34, ← hpb, hc51, hc13] at hc; cases hc))
  refine PW.aload_n rfl rfl dX6_moves_18 ?_
  refine PW.gR hS.1 (by decide) rfl fX6_16 dX6_moves_19 ?_
  refine PW.bipush (v := nI 6) (by decide) dX6_moves_22 ?_
  refine PW.aload_n rfl rfl dX6_moves_24 ?_
  refine PW.gR hS.1 (by decide) rfl fX6_32 dX6_moves_25 ?_
  refine PW.iload_n rfl rfl dX6_moves_28 ?_
  refine PW.aI hS.1 (by decide) rfl (by exact rfl) ⟨by omega, by decide⟩ (by first | exact hN.1 _ ht | exact (hM.2.2.2.2.2 _ ht).1 | exact (hM.2.2.2.2.2 _ ht).2.1 | exact rfl) dX6_moves_29 ?_
  refine PW.imulN dX6_moves_30 ?_
  refine PW.iload_n rfl rfl dX6_moves_31 ?_
  refine PW.iaddN dX6_moves_32 ?_
  refine PW.aZ hS.1 (by decide) rfl (by exact rfl) ⟨by omega, by decide⟩ ((hM.2.2.2.2.1 (w t) k (by omega) (by omega)).1) dX6_moves_33 ?_
  refine PW.if_eqB 68 (by decide) dX6_moves_34 (fun hc34 => ?_) (fun hc34 => ?_)
  · refine PW.bipush (v := -2) (by decide) dX6_moves_68 ?_
    refine PW.iret rfl (Nat.le_refl _) (Nat.le_refl _) dX6_moves_70 ?_
    exact ⟨rfl, rfl⟩
  · refine PW.aload_n rfl rfl dX6_moves_37 ?_
    refine PW.aload_n rfl rfl dX6_moves_38 ?_
    refine PW.gR hS.1 (by decide) rfl fX6_23 dX6_moves_39 ?_
    refine PW.iload_n rfl rfl dX6_moves_42 ?_
    refine PW.aI hS.1 (by decide) rfl (by exact rfl) ⟨by omega, by decide⟩ (by first | exact hN.1 _ ht | exact (hM.2.2.2.2.2 _ ht).1 | exact (hM.2.2.2.2.2 _ ht).2.1 | exact rfl) dX6_moves_43 ?_
    refine PW.cV (ci := 6) (j := 0) _ hS.1 (by decide) rfl kX6_190 (m_letting hS hM hD d13.1) rfl rfl (Nat.le_of_ble_eq_true rfl) rfl ⟨by decide, by decide⟩ ⟨Nat.zero_le _, Nat.zero_le _⟩ dX6_moves_44 ?_
    refine PW.iload_n rfl rfl dX6_moves_47 ?_
    refine PW.cS _ kX6_165 (m_has (a := pockN R (R 13 t) (R 0 0)) (k := k) (by omega) (by omega) mem) rfl rfl (Nat.le_of_ble_eq_true rfl) ⟨by decide, by decide⟩ ⟨Nat.zero_le _, Nat.zero_le _⟩ dX6_moves_48 ?_
    refine PW.if_eqB 68 (by decide) dX6_moves_51 (fun hc51 => ?_) (fun hc51 => ?_)
    · refine PW.bipush (v := -2) (by decide) dX6_moves_68 ?_
      refine PW.iret rfl (Nat.le_refl _) (Nat.le_refl _) dX6_moves_70 ?_
      exact ⟨rfl, rfl⟩
    · refine PW.aload_n rfl rfl dX6_moves_54 ?_
      refine PW.iload_n rfl rfl dX6_moves_55 ?_
      refine PW.aload_n rfl rfl dX6_moves_56 ?_
      refine PW.gR hS.1 (by decide) rfl fX6_26 dX6_moves_57 ?_
      refine PW.iload_n rfl rfl dX6_moves_60 ?_
      refine PW.aI hS.1 (by decide) rfl (by exact rfl) ⟨by omega, by decide⟩ (by first | exact hN.1 _ ht | exact (hM.2.2.2.2.2 _ ht).1 | exact (hM.2.2.2.2.2 _ ht).2.1 | exact rfl) dX6_moves_61 ?_
      refine PW.cV (ci := 6) (j := 0) _ hS.1 (by decide) rfl kX6_208 (m_hasRoom hS hM hD hN hw hk d13.2.2.1) rfl rfl (Nat.le_of_ble_eq_true rfl) rfl ⟨by decide, by decide⟩ ⟨Nat.zero_le _, Nat.zero_le _⟩ dX6_moves_62 ?_
      refine PW.if_neB 71 (by decide) dX6_moves_65 (fun hc65 => by first | (rw [inR_nI ht (by omega)] at hc65; cases hc65) | (rw [inR_nI hk (by omega)] at hc65; cases hc65) | (unfold canB at hc; rw [hc34, ← hpb, hc51, hc65] at hc; cases hc)) (fun hc65 => ?_)
      refine PW.bipush (v := -2) (by decide) dX6_moves_68 ?_
      refine PW.iret rfl (Nat.le_refl _) (Nat.le_refl _) dX6_moves_70 ?_
      exact ⟨rfl, rfl⟩
set_option maxHeartbeats 4000000 in
theorem m_moves_ok (hS : St b s sc mem) (hM : MD mem R) (hD : Dat R) (hN : MN mem (R 1 0) w p d) (hK : K ≤ 10) (hH : HM mem (R 1 0) K h) (hw : ∀ t, t < R 1 0 → w t < R 0 0) {t k : Nat} (ht : t < R 1 0) (hk : k < R 0 0) (hc : canB R w t k = true) : Ret 5 0 0 mX6_moves [.ref 95, .int (nI t), .int (nI k)] mem (fun u m1 => u = some (.int (nI (prcN R (w t) k (R 13 t)))) ∧ St b s sc m1 ∧ Ag (fun q => q ≠ 95 ∧ q ≠ 103 ∧ q ≠ 104) mem m1 ∧ (∀ j, j ≠ 13 → fv m1 95 j = fv mem 95 j) ∧ HM m1 (R 1 0) (hK1 K + 1) (hpush K h (w, p, d)) ∧ MN m1 (R 1 0) (putW w t k) (p + nI (prcN R (w t) k (R 13 t))) d) := by
  have h6 := hD.1
  have hT := hD.2.1
  have hp := pow6 h6
  have hwt := hw t ht
  have d13 := hD.2.2.2.2.2.2 t ht
  have hl := pockN_lt R (R 13 t) (R 0 0)
  have hpb := pockN_bit R (R 13 t) (R 0 0) k
  rw [decide_eq_true hk, Bool.true_and] at hpb
  have hcs := hc
  unfold canB at hcs
  simp only [Bool.and_eq_true] at hcs
  refine Ret.of (by decide) (Nat.le_of_ble_eq_true rfl) fun l G => ?_
  show PW _ _ _ _ [(0, _), (1, _), (2, _)] _ _ _
  refine PW.aload_n rfl rfl dX6_moves_0 ?_
  refine PW.iload_n rfl rfl dX6_moves_1 ?_
  refine PW.cV (ci := 6) (j := 0) _ hS.1 (by decide) rfl kX6_193 (m_isThing hS hM hD _) rfl rfl (Nat.le_of_ble_eq_true rfl) rfl ⟨by decide, by decide⟩ ⟨Nat.zero_le _, Nat.zero_le _⟩ dX6_moves_2 ?_
  refine PW.if_eqB 16 (by decide) dX6_moves_5 (fun hc5 => by first | (rw [inR_nI ht (by omega)] at hc5; cases hc5) | (rw [inR_nI hk (by omega)] at hc5; cases hc5) | (rw [hcs.1.1] at hc5; cases hc5) | (rw [hpb, hcs.1.2] at hc5; cases hc5) | (rw [hcs.2] at hc5; cases hc5)) (fun hc5 => ?_)
  refine PW.aload_n rfl rfl dX6_moves_8 ?_
  refine PW.iload_n rfl rfl dX6_moves_9 ?_
  refine PW.cV (ci := 6) (j := 0) _ hS.1 (by decide) rfl kX6_178 (m_isPocket hS hM hD _) rfl rfl (Nat.le_of_ble_eq_true rfl) rfl ⟨by decide, by decide⟩ ⟨Nat.zero_le _, Nat.zero_le _⟩ dX6_moves_10 ?_
  refine PW.if_neB 18 (by decide) dX6_moves_13 (fun hc13 => ?_) (fun hc13 => by first | (rw [inR_nI ht (by omega)] at hc13; cases hc13) | (rw [inR_nI hk (by omega)] at hc13; cases hc13) | (rw [hcs.1.1] at hc13; cases hc13) | (rw [hpb, hcs.1.2] at hc13; cases hc13) | (rw [hcs.2] at hc13; cases hc13))
  refine PW.aload_n rfl rfl dX6_moves_18 ?_
  refine PW.gR hS.1 (by decide) rfl fX6_16 dX6_moves_19 ?_
  refine PW.bipush (v := nI 6) (by decide) dX6_moves_22 ?_
  refine PW.aload_n rfl rfl dX6_moves_24 ?_
  refine PW.gR hS.1 (by decide) rfl fX6_32 dX6_moves_25 ?_
  refine PW.iload_n rfl rfl dX6_moves_28 ?_
  refine PW.aI hS.1 (by decide) rfl (by exact rfl) ⟨by omega, by decide⟩ (by first | exact hN.1 _ ht | exact (hM.2.2.2.2.2 _ ht).1 | exact (hM.2.2.2.2.2 _ ht).2.1 | exact rfl) dX6_moves_29 ?_
  refine PW.imulN dX6_moves_30 ?_
  refine PW.iload_n rfl rfl dX6_moves_31 ?_
  refine PW.iaddN dX6_moves_32 ?_
  refine PW.aZ hS.1 (by decide) rfl (by exact rfl) ⟨by omega, by decide⟩ ((hM.2.2.2.2.1 (w t) k (by omega) (by omega)).1) dX6_moves_33 ?_
  refine PW.if_eqB 68 (by decide) dX6_moves_34 (fun hc34 => by first | (rw [inR_nI ht (by omega)] at hc34; cases hc34) | (rw [inR_nI hk (by omega)] at hc34; cases hc34) | (rw [hcs.1.1] at hc34; cases hc34) | (rw [hpb, hcs.1.2] at hc34; cases hc34) | (rw [hcs.2] at hc34; cases hc34)) (fun hc34 => ?_)
  refine PW.aload_n rfl rfl dX6_moves_37 ?_
  refine PW.aload_n rfl rfl dX6_moves_38 ?_
  refine PW.gR hS.1 (by decide) rfl fX6_23 dX6_moves_39 ?_
  refine PW.iload_n rfl rfl dX6_moves_42 ?_
  refine PW.aI hS.1 (by decide) rfl (by exact rfl) ⟨by omega, by decide⟩ (by first | exact hN.1 _ ht | exact (hM.2.2.2.2.2 _ ht).1 | exact (hM.2.2.2.2.2 _ ht).2.1 | exact rfl) dX6_moves_43 ?_
  refine PW.cV (ci := 6) (j := 0) _ hS.1 (by decide) rfl kX6_190 (m_letting hS hM hD d13.1) rfl rfl (Nat.le_of_ble_eq_true rfl) rfl ⟨by decide, by decide⟩ ⟨Nat.zero_le _, Nat.zero_le _⟩ dX6_moves_44 ?_
  refine PW.iload_n rfl rfl dX6_moves_47 ?_
  refine PW.cS _ kX6_165 (m_has (a := pockN R (R 13 t) (R 0 0)) (k := k) (by omega) (by omega) mem) rfl rfl (Nat.le_of_ble_eq_true rfl) ⟨by decide, by decide⟩ ⟨Nat.zero_le _, Nat.zero_le _⟩ dX6_moves_48 ?_
  refine PW.if_eqB 68 (by decide) dX6_moves_51 (fun hc51 => by first | (rw [inR_nI ht (by omega)] at hc51; cases hc51) | (rw [inR_nI hk (by omega)] at hc51; cases hc51) | (rw [hcs.1.1] at hc51; cases hc51) | (rw [hpb, hcs.1.2] at hc51; cases hc51) | (rw [hcs.2] at hc51; cases hc51)) (fun hc51 => ?_)
  refine PW.aload_n rfl rfl dX6_moves_54 ?_
  refine PW.iload_n rfl rfl dX6_moves_55 ?_
  refine PW.aload_n rfl rfl dX6_moves_56 ?_
  refine PW.gR hS.1 (by decide) rfl fX6_26 dX6_moves_57 ?_
  refine PW.iload_n rfl rfl dX6_moves_60 ?_
  refine PW.aI hS.1 (by decide) rfl (by exact rfl) ⟨by omega, by decide⟩ (by first | exact hN.1 _ ht | exact (hM.2.2.2.2.2 _ ht).1 | exact (hM.2.2.2.2.2 _ ht).2.1 | exact rfl) dX6_moves_61 ?_
  refine PW.cV (ci := 6) (j := 0) _ hS.1 (by decide) rfl kX6_208 (m_hasRoom hS hM hD hN hw hk d13.2.2.1) rfl rfl (Nat.le_of_ble_eq_true rfl) rfl ⟨by decide, by decide⟩ ⟨Nat.zero_le _, Nat.zero_le _⟩ dX6_moves_62 ?_
  refine PW.if_neB 71 (by decide) dX6_moves_65 (fun hc65 => ?_) (fun hc65 => by first | (rw [inR_nI ht (by omega)] at hc65; cases hc65) | (rw [inR_nI hk (by omega)] at hc65; cases hc65) | (rw [hcs.1.1] at hc65; cases hc65) | (rw [hpb, hcs.1.2] at hc65; cases hc65) | (rw [hcs.2] at hc65; cases hc65))
  refine PW.aload_n rfl rfl dX6_moves_71 ?_
  refine PW.dV (ci := 6) (j := 0) _ hS.1 (by decide) rfl kX6_211 (m_noteH hS hT hK hH hN) rfl rfl (Nat.le_of_ble_eq_true rfl) rfl ⟨by decide, by decide⟩ ⟨Nat.zero_le _, Nat.zero_le _⟩ dX6_moves_72 (fun v m1 q => ?_)
  obtain ⟨rfl, hS, hA, hf, hH'⟩ := q
  have hM' := hM.ag2 hA (fi_fv (hf 3 (by decide))) (fi_fv (hf 10 (by decide))) (fi_fv (hf 6 (by decide))) (fun q h1 h2 => ⟨by omega, by omega⟩)
  have hN' := hN.ag hA ⟨by decide, by decide⟩
  refine PW.aload_n rfl rfl dX6_moves_75 ?_
  refine PW.aload_n rfl rfl dX6_moves_76 ?_
  refine PW.gR hS.1 (by decide) rfl fX6_32 dX6_moves_77 ?_
  refine PW.iload_n rfl rfl dX6_moves_80 ?_
  refine PW.aI hS.1 (by decide) rfl (by exact rfl) ⟨by omega, by decide⟩ (hN'.1 _ ht) dX6_moves_81 ?_
  refine PW.iload_n rfl rfl dX6_moves_82 ?_
  refine PW.aload_n rfl rfl dX6_moves_83 ?_
  refine PW.gR hS.1 (by decide) rfl fX6_23 dX6_moves_84 ?_
  refine PW.iload_n rfl rfl dX6_moves_87 ?_
  refine PW.aI hS.1 (by decide) rfl (by exact rfl) ⟨by omega, by decide⟩ ((hM'.2.2.2.2.2 _ ht).1) dX6_moves_88 ?_
  refine PW.cV (ci := 6) (j := 0) _ hS.1 (by decide) rfl kX6_214 (m_taxOf hS hM' hD (by omega) hk d13.1) rfl rfl (Nat.le_of_ble_eq_true rfl) rfl ⟨by decide, by decide⟩ ⟨Nat.zero_le _, Nat.zero_le _⟩ dX6_moves_89 ?_
  refine PW.istore_n rfl (by decide) dX6_moves_92 (?_ : PW _ _ _ _ [(0, _), (1, _), (2, _), (3, _)] _ _ _)
  refine PW.aload_n rfl rfl dX6_moves_93 ?_
  refine PW.gR hS.1 (by decide) rfl fX6_32 dX6_moves_94 ?_
  refine PW.bipush (v := nI 6) (by decide) dX6_moves_97 ?_
  refine PW.dup2 rfl rfl dX6_moves_99 ?_
  refine PW.aI hS.1 (by decide) rfl (by exact rfl) ⟨by omega, by decide⟩ (hN'.2.1) dX6_moves_100 ?_
  refine PW.iload_n rfl rfl dX6_moves_101 ?_
  refine PW.iadd dX6_moves_102 ?_
  refine PW.uI hS (by decide) rfl (by exact rfl) ⟨by omega, by decide⟩ dX6_moves_103 (fun hS hw103 => ?_)
  refine PW.aload_n rfl rfl dX6_moves_104 ?_
  refine PW.gR hS.1 (by decide) rfl fX6_32 dX6_moves_105 ?_
  refine PW.iload_n rfl rfl dX6_moves_108 ?_
  refine PW.iload_n rfl rfl dX6_moves_109 ?_
  refine PW.uI hS (by decide) rfl (by exact rfl) ⟨by omega, by decide⟩ dX6_moves_110 (fun hS hw110 => ?_)
  refine PW.iload_n rfl rfl dX6_moves_111 ?_
  refine PW.iret rfl (Nat.le_refl _) (Nat.le_refl _) dX6_moves_112 ?_
  refine ⟨rfl, hS, ((hA.mono (fun q h => ⟨h.1, h.2.2⟩)).tr (Ag.wI (fun h => h.2.1 rfl))).tr (Ag.wI (fun h => h.2.1 rfl)), fun j hj => by rw [fv_wI, fv_wI]; exact hf j hj, hH'.ag2 (by rw [fi_wI, fi_wI]) (fun q => by rw [iv_wI_ne (by decide), iv_wI_ne (by decide)]), fun i hi => ?_, ?_, ?_⟩
  · rw [hw110]
    unfold putW
    split
    · rfl
    · rw [hw103, if_neg (by omega)]; exact hN'.1 i hi
  · rw [hw110, if_neg (by omega), hw103, if_pos rfl]; rfl
  · rw [hw110, if_neg (by omega), hw103, if_neg (by decide)]; exact hN'.2.2
set_option maxHeartbeats 4000000 in
theorem x_fallsThrough (hS : St b s sc mem) (hX : XD mem b R) (hD : Dat R) (hN : XN mem 13 (R 1 0) w p d) (hw : ∀ t, t < R 1 0 → w t < R 0 0) {t : Nat} (ht : t < R 1 0) : Ret 2 0 0 mX5_fallsThrough [.ref 9, .int (nI t)] mem (fun u m1 => u = some (.int (bI (fallB R w t))) ∧ St b s sc m1 ∧ Ag (fun q => q ≠ 14) mem m1 ∧ XN m1 13 (R 1 0) (fallW R w t) p d) := by
  have h6 := hD.1
  have hT := hD.2.1
  have hwt := hw t ht
  have d13 := hD.2.2.2.2.2.2 t ht
  obtain ⟨-, -, -, d10, d11, -⟩ := hD.2.2.2.2.1 (w t) (by omega)
  obtain ⟨-, -, -, x8, x9⟩ := hX.2.2.2.2.1 (w t) (by omega)
  by_cases h9 : R 10 (w t) = 9
  · have hf : fallB R w t = false := by simp [fallB, h9]
    refine Ret.of (by decide) (Nat.le_of_ble_eq_true rfl) fun l G => ?_
    show PW _ _ _ _ [(0, _), (1, _)] _ _ _
    refine PW.aload_n rfl rfl dX5_fallsThrough_0 ?_
    refine PW.gR hS.1 (by decide) rfl fX5_19 dX5_fallsThrough_1 ?_
    refine PW.gR hS.1 (by decide) rfl fX5_134 dX5_fallsThrough_4 ?_
    refine PW.iload_n rfl rfl dX5_fallsThrough_7 ?_
    refine PW.aI hS.1 (by decide) rfl (by exact rfl) ⟨by omega, by decide⟩ (hN.1 _ ht) dX5_fallsThrough_8 ?_
    refine PW.istore_n rfl (by decide) dX5_fallsThrough_9 (?_ : PW _ _ _ _ [(0, _), (1, _), (2, _)] _ _ _)
    refine PW.aload_n rfl rfl dX5_fallsThrough_10 ?_
    refine PW.gV hS.1 (by decide) rfl hS.2.1 fX5_58 dX5_fallsThrough_11 ?_
    refine PW.gR hS.1 (by have := hS.b; omega) (skR10 hS.b) fX5_119 dX5_fallsThrough_14 ?_
    refine PW.iload_n rfl rfl dX5_fallsThrough_17 ?_
    refine PW.aI hS.1 (by have := hS.b; omega) (akR8 hS.b) (by exact rfl) ⟨by omega, by decide⟩ (x8.trans (by rw [h9]; rfl : hI (R 10 (w t)) = -9)) dX5_fallsThrough_18 ?_
    refine PW.istore_n rfl (by decide) dX5_fallsThrough_19 (?_ : PW _ _ _ _ [(0, _), (1, _), (2, _), (3, _)] _ _ _)
    refine PW.iload_n rfl rfl dX5_fallsThrough_20 ?_
    refine PW.bipush (v := -9) (by decide) dX5_fallsThrough_21 ?_
    refine PW.icmp_eq 64 (by decide) dX5_fallsThrough_23 (fun hc23 => ?_) (fun hc23 => by exact absurd rfl hc23)
    refine PW.iconst (v := nI 0) (by decide) dX5_fallsThrough_64 ?_
    refine PW.zret rfl (by first | exact bI_nar _ | rfl) (Nat.le_refl _) (Nat.le_refl _) dX5_fallsThrough_65 ?_
    exact ⟨by rw [hf]; rfl, hS, Ag.rf, by unfold fallW; rw [hf]; exact hN⟩
  · have hlt := d10.resolve_right h9
    have h11 := d11 h9
    have hf1 : R 11 (w t) < R 14 t → fallB R w t = false := fun q => by unfold fallB; rw [decide_eq_false (show ¬ R 14 t ≤ R 11 (w t) by omega), Bool.and_false, Bool.false_and]
    have hf2 : decide (fillN R w (R 10 (w t)) (R 1 0) + R 14 t ≤ R 3 (R 10 (w t))) = false → fallB R w t = false := fun q => by unfold fallB; rw [q, Bool.and_false]
    have hf3 : R 14 t ≤ R 11 (w t) → decide (fillN R w (R 10 (w t)) (R 1 0) + R 14 t ≤ R 3 (R 10 (w t))) = true → fallB R w t = true := fun q1 q2 => by unfold fallB; rw [q2, decide_eq_true h9, decide_eq_true q1]; rfl
    have c0 : fallB R w t = false → (some (Value.int (nI 0)) = some (Value.int (bI (fallB R w t))) ∧ St b s sc mem ∧ Ag (fun q => q ≠ 14) mem mem ∧ XN mem 13 (R 1 0) (fallW R w t) p d) := fun hf => ⟨by rw [hf]; rfl, hS, Ag.rf, by unfold fallW; rw [hf]; exact hN⟩
    have c1 : ∀ m1, St b s sc m1 → Ag (fun q => q ≠ 14) mem m1 → (∀ i, iv m1 14 i = if i = t then nI (R 10 (w t)) else iv mem 14 i) → fallB R w t = true → (some (Value.int (nI 1)) = some (Value.int (bI (fallB R w t))) ∧ St b s sc m1 ∧ Ag (fun q => q ≠ 14) mem m1 ∧ XN m1 13 (R 1 0) (fallW R w t) p d) := fun m1 h1 h2 h3 hf => by
      refine ⟨by rw [hf]; rfl, h1, h2, fun i hi => ?_, by rw [h2.fi (r := 13) (by decide)]; exact hN.2.1, by rw [h2.fi (r := 13) (by decide)]; exact hN.2.2⟩
      rw [h3]
      unfold fallW
      rw [if_pos hf]
      unfold putW
      split
      · rfl
      · exact hN.1 i hi
    refine Ret.of (by decide) (Nat.le_of_ble_eq_true rfl) fun l G => ?_
    show PW _ _ _ _ [(0, _), (1, _)] _ _ _
    refine PW.aload_n rfl rfl dX5_fallsThrough_0 ?_
    refine PW.gR hS.1 (by decide) rfl fX5_19 dX5_fallsThrough_1 ?_
    refine PW.gR hS.1 (by decide) rfl fX5_134 dX5_fallsThrough_4 ?_
    refine PW.iload_n rfl rfl dX5_fallsThrough_7 ?_
    refine PW.aI hS.1 (by decide) rfl (by exact rfl) ⟨by omega, by decide⟩ (hN.1 _ ht) dX5_fallsThrough_8 ?_
    refine PW.istore_n rfl (by decide) dX5_fallsThrough_9 (?_ : PW _ _ _ _ [(0, _), (1, _), (2, _)] _ _ _)
    refine PW.aload_n rfl rfl dX5_fallsThrough_10 ?_
    refine PW.gV hS.1 (by decide) rfl hS.2.1 fX5_58 dX5_fallsThrough_11 ?_
    refine PW.gR hS.1 (by have := hS.b; omega) (skR10 hS.b) fX5_119 dX5_fallsThrough_14 ?_
    refine PW.iload_n rfl rfl dX5_fallsThrough_17 ?_
    refine PW.aI hS.1 (by have := hS.b; omega) (akR8 hS.b) (by exact rfl) ⟨by omega, by decide⟩ (x8.trans (hI_lt (by omega))) dX5_fallsThrough_18 ?_
    refine PW.istore_n rfl (by decide) dX5_fallsThrough_19 (?_ : PW _ _ _ _ [(0, _), (1, _), (2, _), (3, _)] _ _ _)
    refine PW.iload_n rfl rfl dX5_fallsThrough_20 ?_
    refine PW.bipush (v := -9) (by decide) dX5_fallsThrough_21 ?_
    refine PW.icmp_eq 64 (by decide) dX5_fallsThrough_23 (fun hc23 => by exact absurd hc23 (nI_ne9 (by omega))) (fun hc23 => ?_)
    refine PW.aload_n rfl rfl dX5_fallsThrough_26 ?_
    refine PW.gV hS.1 (by decide) rfl hS.2.1 fX5_58 dX5_fallsThrough_27 ?_
    refine PW.gR hS.1 (by have := hS.b; omega) (skR14 hS.b) fX5_128 dX5_fallsThrough_30 ?_
    refine PW.iload_n rfl rfl dX5_fallsThrough_33 ?_
    refine PW.aI hS.1 (by have := hS.b; omega) (akR18 hS.b) (by exact rfl) ⟨by omega, by decide⟩ ((hX.2.2.2.2.2.2 _ ht).2.1) dX5_fallsThrough_34 ?_
    refine PW.aload_n rfl rfl dX5_fallsThrough_35 ?_
    refine PW.gV hS.1 (by decide) rfl hS.2.1 fX5_58 dX5_fallsThrough_36 ?_
    refine PW.gR hS.1 (by have := hS.b; omega) (skR11 hS.b) fX5_264 dX5_fallsThrough_39 ?_
    refine PW.iload_n rfl rfl dX5_fallsThrough_42 ?_
    refine PW.aI hS.1 (by have := hS.b; omega) (akR9 hS.b) (by exact rfl) ⟨by omega, by decide⟩ (x9 h9) dX5_fallsThrough_43 ?_
    refine PW.icmp_gtN 64 (by decide) (by first | omega | (split <;> omega)) (by first | omega | (split <;> omega)) dX5_fallsThrough_44 (fun hc44 => ?_) (fun hc44 => ?_)
    · refine PW.iconst (v := nI 0) (by decide) dX5_fallsThrough_64 ?_
      refine PW.zret rfl (by first | exact bI_nar _ | rfl) (Nat.le_refl _) (Nat.le_refl _) dX5_fallsThrough_65 ?_
      first | exact c0 (hf1 hc44) | exact c0 (hf2 hc61) | exact c1 _ hS (Ag.wI (fun h => h rfl)) hw75 (hf3 hc44 hc61)
    · refine PW.aload_n rfl rfl dX5_fallsThrough_47 ?_
      refine PW.iload_n rfl rfl dX5_fallsThrough_48 ?_
      refine PW.aload_n rfl rfl dX5_fallsThrough_49 ?_
      refine PW.gV hS.1 (by decide) rfl hS.2.1 fX5_58 dX5_fallsThrough_50 ?_
      refine PW.gR hS.1 (by have := hS.b; omega) (skR14 hS.b) fX5_128 dX5_fallsThrough_53 ?_
      refine PW.iload_n rfl rfl dX5_fallsThrough_56 ?_
      refine PW.aI hS.1 (by have := hS.b; omega) (akR18 hS.b) (by exact rfl) ⟨by omega, by decide⟩ ((hX.2.2.2.2.2.2 _ ht).2.1) dX5_fallsThrough_57 ?_
      refine PW.cV (ci := 5) (j := 0) _ hS.1 (by decide) rfl kX5_166 (x_hasRoom hS hX hD hN hw hlt d13.2.2.1) rfl rfl (Nat.le_of_ble_eq_true rfl) rfl ⟨by decide, by decide⟩ ⟨Nat.zero_le _, Nat.zero_le _⟩ dX5_fallsThrough_58 ?_
      refine PW.if_neB 66 (by decide) dX5_fallsThrough_61 (fun hc61 => ?_) (fun hc61 => ?_)
      · refine PW.aload_n rfl rfl dX5_fallsThrough_66 ?_
        refine PW.gR hS.1 (by decide) rfl fX5_19 dX5_fallsThrough_67 ?_
        refine PW.gR hS.1 (by decide) rfl fX5_134 dX5_fallsThrough_70 ?_
        refine PW.iload_n rfl rfl dX5_fallsThrough_73 ?_
        refine PW.iload_n rfl rfl dX5_fallsThrough_74 ?_
        refine PW.uI hS (by decide) rfl (by exact rfl) ⟨by omega, by decide⟩ dX5_fallsThrough_75 (fun hS hw75 => ?_)
        refine PW.iconst (v := nI 1) (by decide) dX5_fallsThrough_76 ?_
        refine PW.zret rfl (by first | exact bI_nar _ | rfl) (Nat.le_refl _) (Nat.le_refl _) dX5_fallsThrough_77 ?_
        first | exact c0 (hf1 hc44) | exact c0 (hf2 hc61) | exact c1 _ hS (Ag.wI (fun h => h rfl)) hw75 (hf3 hc44 hc61)
      · refine PW.iconst (v := nI 0) (by decide) dX5_fallsThrough_64 ?_
        refine PW.zret rfl (by first | exact bI_nar _ | rfl) (Nat.le_refl _) (Nat.le_refl _) dX5_fallsThrough_65 ?_
        first | exact c0 (hf1 hc44) | exact c0 (hf2 hc61) | exact c1 _ hS (Ag.wI (fun h => h rfl)) hw75 (hf3 hc44 hc61)
end MOV
