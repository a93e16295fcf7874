/-! ===== way: class and model answer alike ===== -/
theorem lstM_le {R : DR} {t : Nat} {pr : Bool} {a k : Nat} : lstM R t pr a k ≤ 100000 := Nat.le_trans (rR_le k _) (by unfold f0; split <;> omega)
theorem opE_lt {R : DR} {t u v : Nat} (h : opE R t u v = true) : u < R 0 0 ∧ v < R 0 0 := by
  unfold opE at h
  simp only [Bool.and_eq_true, decide_eq_true_eq] at h
  exact h.1
theorem eX_all {P u v : Nat} (hu : u < P) (hv : v < P) : ∃ i, i < P * P ∧ eX P i = (u, v) := by
  refine ⟨P * u + v, ?_, ?_⟩
  · have h1 : P * (u + 1) ≤ P * P := Nat.mul_le_mul_left P (by omega)
    rw [Nat.mul_succ] at h1
    omega
  · show ((P * u + v) / P, (P * u + v) % P) = (u, v)
    rw [Nat.mul_add_div (by omega), Nat.div_eq_of_lt hv, Nat.mul_add_mod, Nat.mod_eq_of_lt hv, Nat.add_zero]
theorem lstX_dst {R : DR} (hD : Dat R) {t A B a k : Nat} {pr : Bool} (ha : a < R 0 0) : Dst (opE R t) (stN R t pr A B) a 1000000 k (lstX R t pr A B a k) :=
  rR_end (by decide) hD.1 ha (fun u v h => (opE_lt h).2) (fun u v => stN_le hD t pr A B u v) (fun u v h => eX_all (opE_lt h).1 (opE_lt h).2) (by omega) (by decide) k
theorem lstM_dst {R : DR} (hD : Dat R) {t a k : Nat} {pr : Bool} (ha : a < R 0 0) : Dst (opE R t) (stN R t pr 9 9) a 100000 k (lstM R t pr a k) := by
  have h6 := hD.1
  exact rR_end (P := R 0 0) (by decide) hD.1 ha (fun u v h => (opE_lt h).2) (fun u v => stN_le hD t pr 9 9 u v) (fun u v h => by
    obtain ⟨h1, h2⟩ := opE_lt h
    exact eX_all (P := 6) (by omega) (by omega)) (by omega) (by decide) k
theorem lst_eq {R : DR} (hD : Dat R) {t a k : Nat} {pr : Bool} (ha : a < R 0 0) : (if lstX R t pr 9 9 a k < 1000000 then nI (lstX R t pr 9 9 a k) else (-9 : Int32)) = (if lstM R t pr a k < 100000 then nI (lstM R t pr a k) else -9) := by
  obtain ⟨h1, h2⟩ := (lstX_dst hD (A := 9) (B := 9) (k := k) (t := t) (pr := pr) ha).uniq (lstM_dst hD ha) (by decide) (by decide)
  by_cases h : lstX R t pr 9 9 a k < 1000000
  · rw [if_pos h, if_pos (h1.mp h), h2 h]
  · rw [if_neg h, if_neg (fun q => h (h1.mpr q))]
def wayS (R : DR) (w : Nat → Nat) (t k x : Int32) : Int32 := if inR t (R 1 0) = true ∧ inR k (R 0 0) = true ∧ inR x 2 = true then (if lstM R (R 13 (cl t)) (decide (cl x = 1)) (w (cl t)) (cl k) < 100000 then nI (lstM R (R 13 (cl t)) (decide (cl x = 1)) (w (cl t)) (cl k)) else -9) else -1
section WAY2
variable {b s : Nat} {sc : pw_E} {mem : pw_M} {R : DR} {w : Nat → Nat} {p : Int32} {d : Nat} {e K : Nat}
set_option maxHeartbeats 8000000 in
theorem x_way (hS : St b s sc mem) (hX : XD mem b R) (hL : XL mem b R) (hD : Dat R) (hN : XN mem 13 (R 1 0) w p d) (hw : ∀ t, t < R 1 0 → w t < R 0 0) (t k x : Int32) : Ret 4 0 0 mX5_way [.ref 9, .int t, .int k, .int x] mem (fun v m1 => v = some (.int (wayS R w t k x)) ∧ St b s sc m1 ∧ Ag (fun r => r ≠ 46) mem m1) := by
  have h6 := hD.1
  have hT := hD.2.1
  by_cases hg : inR t (R 1 0) = true ∧ inR k (R 0 0) = true ∧ inR x 2 = true
  · rw [wayS, if_pos hg]
    obtain ⟨g1, g2, g3⟩ := hg
    obtain ⟨t, ht, rfl⟩ := inR_of g1
    obtain ⟨k, hk, rfl⟩ := inR_of g2
    obtain ⟨x, hx, rfl⟩ := inR_of g3
    rw [cl_nI (by omega), cl_nI (by omega), cl_nI (by omega)]
    have hle : ∀ pr, _ := fun pr => x_least hS hX hL hD hN hw (pr := pr) ht hk (A := 9) (B := 9) (Or.inr rfl) (Or.inr rfl)
    rw [← lst_eq hD (hw t ht)]
    have hl1 := hle true
    have hl0 := hle false
    rw [show bI true = nI 1 from rfl, hI_9] at hl1
    rw [show bI false = nI 0 from rfl, hI_9] at hl0
    rcases (show x = 0 ∨ x = 1 by omega) with rfl | rfl
    · refine Ret.of (by decide) (Nat.le_of_ble_eq_true rfl) fun l G => ?_
      show PW _ _ _ _ [(0, _), (1, _), (2, _), (3, _)] _ _ _
      refine PW.aload_n rfl rfl dX5_way_0 ?_
      refine PW.iload_n rfl rfl dX5_way_1 ?_
      refine PW.cV (ci := 5) (j := 0) _ hS.1 (by decide) rfl kX5_122 (x_isThing hS hX hD _) rfl rfl (Nat.le_of_ble_eq_true rfl) rfl ⟨by decide, by decide⟩ ⟨Nat.zero_le _, Nat.zero_le _⟩ dX5_way_2 ?_
      refine PW.if_eqB 25 (by decide) dX5_way_5 (fun hc5 => by (first | (exfalso; omega) | (rw [g1] at hc5; cases hc5) | (rw [g2] at hc5; cases hc5) | (rw [g3] at hc5; cases hc5))) (fun hc5 => ?_)
      refine PW.aload_n rfl rfl dX5_way_8 ?_
      refine PW.iload_n rfl rfl dX5_way_9 ?_
      refine PW.cV (ci := 5) (j := 0) _ hS.1 (by decide) rfl kX5_93 (x_isPocket hS hX hD _) rfl rfl (Nat.le_of_ble_eq_true rfl) rfl ⟨by decide, by decide⟩ ⟨Nat.zero_le _, Nat.zero_le _⟩ dX5_way_10 ?_
      refine PW.if_eqB 25 (by decide) dX5_way_13 (fun hc13 => by (first | (exfalso; omega) | (rw [g1] at hc13; cases hc13) | (rw [g2] at hc13; cases hc13) | (rw [g3] at hc13; cases hc13))) (fun hc13 => ?_)
      refine PW.iload_n rfl rfl dX5_way_16 ?_
      refine PW.iconst (v := nI 0) (by decide) dX5_way_17 ?_
      refine PW.iconst (v := nI 1) (by decide) dX5_way_18 ?_
      refine PW.cS _ kX5_71 (x_inR _ (h := 1) (by decide) mem) rfl rfl (Nat.le_of_ble_eq_true rfl) ⟨by decide, by decide⟩ ⟨Nat.zero_le _, Nat.zero_le _⟩ dX5_way_19 ?_
      refine PW.if_neB 27 (by decide) dX5_way_22 (fun hc22 => ?_) (fun hc22 => by (first | (exfalso; omega) | (rw [g1] at hc22; cases hc22) | (rw [g2] at hc22; cases hc22) | (rw [g3] at hc22; cases hc22)))
      refine PW.aload_n rfl rfl dX5_way_27 ?_
      refine PW.iload_n rfl rfl dX5_way_28 ?_
      refine PW.iload_n rfl rfl dX5_way_29 ?_
      refine PW.iload_n rfl rfl dX5_way_30 ?_
      refine PW.iconst (v := nI 1) (by decide) dX5_way_31 ?_
      refine PW.icmp_neN 39 (by decide) (by first | omega | (split <;> omega)) (by first | omega | (split <;> omega)) dX5_way_32 (fun hc32 => ?_) (fun hc32 => by (first | (exfalso; omega) | (rw [g1] at hc32; cases hc32) | (rw [g2] at hc32; cases hc32) | (rw [g3] at hc32; cases hc32)))
      refine PW.iconst (v := nI 0) (by decide) dX5_way_39 ?_
      refine PW.bipush (v := -9) (by decide) dX5_way_40 ?_
      refine PW.bipush (v := -9) (by decide) dX5_way_42 ?_
      refine PW.dV (ci := 5) (j := 0) _ hS.1 (by decide) rfl kX5_186 (hl0) rfl rfl (Nat.le_of_ble_eq_true rfl) rfl ⟨by decide, by decide⟩ ⟨Nat.zero_le _, Nat.zero_le _⟩ dX5_way_44 (fun v m1 q => ?_)
      obtain ⟨rfl, hS, hA⟩ := q
      refine PW.iret rfl (Nat.le_refl _) (Nat.le_refl _) dX5_way_47 ?_
      exact ⟨rfl, hS, hA⟩
    · refine Ret.of (by decide) (Nat.le_of_ble_eq_true rfl) fun l G => ?_
      show PW _ _ _ _ [(0, _), (1, _), (2, _), (3, _)] _ _ _
      refine PW.aload_n rfl rfl dX5_way_0 ?_
      refine PW.iload_n rfl rfl dX5_way_1 ?_
      refine PW.cV (ci := 5) (j := 0) _ hS.1 (by decide) rfl kX5_122 (x_isThing hS hX hD _) rfl rfl (Nat.le_of_ble_eq_true rfl) rfl ⟨by decide, by decide⟩ ⟨Nat.zero_le _, Nat.zero_le _⟩ dX5_way_2 ?_
      refine PW.if_eqB 25 (by decide) dX5_way_5 (fun hc5 => by (first | (exfalso; omega) | (rw [g1] at hc5; cases hc5) | (rw [g2] at hc5; cases hc5) | (rw [g3] at hc5; cases hc5))) (fun hc5 => ?_)
      refine PW.aload_n rfl rfl dX5_way_8 ?_
      refine PW.iload_n rfl rfl dX5_way_9 ?_
      refine PW.cV (ci := 5) (j := 0) _ hS.1 (by decide) rfl kX5_93 (x_isPocket hS hX hD _) rfl rfl (Nat.le_of_ble_eq_true rfl) rfl ⟨by decide, by decide⟩ ⟨Nat.zero_le _, Nat.zero_le _⟩ dX5_way_10 ?_
      refine PW.if_eqB 25 (by decide) dX5_way_13 (fun hc13 => by (first | (exfalso; omega) | (rw [g1] at hc13; cases hc13) | (rw [g2] at hc13; cases hc13) | (rw [g3] at hc13; cases hc13))) (fun hc13 => ?_)
      refine PW.iload_n rfl rfl dX5_way_16 ?_
      refine PW.iconst (v := nI 0) (by decide) dX5_way_17 ?_
      refine PW.iconst (v := nI 1) (by decide) dX5_way_18 ?_
      refine PW.cS _ kX5_71 (x_inR _ (h := 1) (by decide) mem) rfl rfl (Nat.le_of_ble_eq_true rfl) ⟨by decide, by decide⟩ ⟨Nat.zero_le _, Nat.zero_le _⟩ dX5_way_19 ?_
      refine PW.if_neB 27 (by decide) dX5_way_22 (fun hc22 => ?_) (fun hc22 => by (first | (exfalso; omega) | (rw [g1] at hc22; cases hc22) | (rw [g2] at hc22; cases hc22) | (rw [g3] at hc22; cases hc22)))
      refine PW.aload_n rfl rfl dX5_way_27 ?_
      refine PW.iload_n rfl rfl dX5_way_28 ?_
      refine PW.iload_n rfl rfl dX5_way_29 ?_
      refine PW.iload_n rfl rfl dX5_way_30 ?_
      refine PW.iconst (v := nI 1) (by decide) dX5_way_31 ?_
      refine PW.icmp_neN 39 (by decide) (by first | omega | (split <;> omega)) (by first | omega | (split <;> omega)) dX5_way_32 (fun hc32 => by (first | (exfalso; omega) | (rw [g1] at hc32; cases hc32) | (rw [g2] at hc32; cases hc32) | (rw [g3] at hc32; cases hc32))) (fun hc32 => ?_)
      refine PW.iconst (v := nI 1) (by decide) dX5_way_35 ?_
      refine PW.goto 40 (by decide) dX5_way_36 ?_
      refine PW.bipush (v := -9) (by decide) dX5_way_40 ?_
      refine PW.bipush (v := -9) (by decide) dX5_way_42 ?_
      refine PW.dV (ci := 5) (j := 0) _ hS.1 (by decide) rfl kX5_186 (hl1) rfl rfl (Nat.le_of_ble_eq_true rfl) rfl ⟨by decide, by decide⟩ ⟨Nat.zero_le _, Nat.zero_le _⟩ dX5_way_44 (fun v m1 q => ?_)
      obtain ⟨rfl, hS, hA⟩ := q
      refine PW.iret rfl (Nat.le_refl _) (Nat.le_refl _) dX5_way_47 ?_
      exact ⟨rfl, hS, hA⟩
  · rw [wayS, if_neg hg]
    refine Ret.of (by decide) (Nat.le_of_ble_eq_true rfl) fun l G => ?_
    show PW _ _ _ _ [(0, _), (1, _), (2, _), (3, _)] _ _ _
    refine PW.aload_n rfl rfl dX5_way_0 ?_
    refine PW.iload_n rfl rfl dX5_way_1 ?_
    refine PW.cV (ci := 5) (j := 0) _ hS.1 (by decide) rfl kX5_122 (x_isThing hS hX hD _) rfl rfl (Nat.le_of_ble_eq_true rfl) rfl ⟨by decide, by decide⟩ ⟨Nat.zero_le _, Nat.zero_le _⟩ dX5_way_2 ?_
    refine PW.if_eqB 25 (by decide) dX5_way_5 (fun hc5 => ?_) (fun hc5 => ?_)
    · refine PW.iconst (v := -1) (by decide) dX5_way_25 ?_
      refine PW.iret rfl (Nat.le_refl _) (Nat.le_refl _) dX5_way_26 ?_
      exact ⟨rfl, hS, Ag.rf⟩
    · refine PW.aload_n rfl rfl dX5_way_8 ?_
      refine PW.iload_n rfl rfl dX5_way_9 ?_
      refine PW.cV (ci := 5) (j := 0) _ hS.1 (by decide) rfl kX5_93 (x_isPocket hS hX hD _) rfl rfl (Nat.le_of_ble_eq_true rfl) rfl ⟨by decide, by decide⟩ ⟨Nat.zero_le _, Nat.zero_le _⟩ dX5_way_10 ?_
      refine PW.if_eqB 25 (by decide) dX5_way_13 (fun hc13 => ?_) (fun hc13 => ?_)
      · refine PW.iconst (v := -1) (by decide) dX5_way_25 ?_
        refine PW.iret rfl (Nat.le_refl _) (Nat.le_refl _) dX5_way_26 ?_
        exact ⟨rfl, hS, Ag.rf⟩
      · refine PW.iload_n rfl rfl dX5_way_16 ?_
        refine PW.iconst (v := nI 0) (by decide) dX5_way_17 ?_
        refine PW.iconst (v := nI 1) (by decide) dX5_way_18 ?_
        refine PW.cS _ kX5_71 (x_inR x (h := 1) (by decide) mem) rfl rfl (Nat.le_of_ble_eq_true rfl) ⟨by decide, by decide⟩ ⟨Nat.zero_le _, Nat.zero_le _⟩ dX5_way_19 ?_
        refine PW.if_neB 27 (by decide) dX5_way_22 (fun hc22 => by exact absurd ⟨hc5, hc13, hc22⟩ hg) (fun hc22 => ?_)
        refine PW.iconst (v := -1) (by decide) dX5_way_25 ?_
        refine PW.iret rfl (Nat.le_refl _) (Nat.le_refl _) dX5_way_26 ?_
        exact ⟨rfl, hS, Ag.rf⟩
set_option maxHeartbeats 8000000 in
theorem m_way (hS : St b s sc mem) (hM : MD mem R) (hD : Dat R) (hN : MN mem (R 1 0) w p d) (hw : ∀ t, t < R 1 0 → w t < R 0 0) (t k x : Int32) : Ret 6 0 0 mX6_way [.ref 95, .int t, .int k, .int x] mem (fun v m1 => v = some (.int (wayS R w t k x)) ∧ St b s sc m1 ∧ Ag (fun r => r ≠ 110) mem m1) := by
  have h6 := hD.1
  have hT := hD.2.1
  by_cases hg : inR t (R 1 0) = true ∧ inR k (R 0 0) = true ∧ inR x 2 = true
  · rw [wayS, if_pos hg]
    obtain ⟨g1, g2, g3⟩ := hg
    obtain ⟨t, ht, rfl⟩ := inR_of g1
    obtain ⟨k, hk, rfl⟩ := inR_of g2
    obtain ⟨x, hx, rfl⟩ := inR_of g3
    rw [cl_nI (by omega), cl_nI (by omega), cl_nI (by omega)]
    have hl1 := m_farOf hS hM hD hN hw (pr := true) ht hk
    have hl0 := m_farOf hS hM hD hN hw (pr := false) ht hk
    rw [show bI true = nI 1 from rfl] at hl1
    rw [show bI false = nI 0 from rfl] at hl0
    rcases (show x = 0 ∨ x = 1 by omega) with rfl | rfl
    · have hm := lstM_le (R := R) (t := R 13 t) (pr := false) (a := w t) (k := k)
      rw [show decide (0 = 1) = false from rfl]
      generalize lstM R (R 13 t) false (w t) k = q at hl0 hm ⊢
      refine Ret.of (by decide) (Nat.le_of_ble_eq_true rfl) fun l G => ?_
      show PW _ _ _ _ [(0, _), (1, _), (2, _), (3, _)] _ _ _
      refine PW.aload_n rfl rfl dX6_way_0 ?_
      refine PW.iload_n rfl rfl dX6_way_1 ?_
      refine PW.cV (ci := 6) (j := 0) _ hS.1 (by decide) rfl kX6_193 (m_isThing hS hM hD _) rfl rfl (Nat.le_of_ble_eq_true rfl) rfl ⟨by decide, by decide⟩ ⟨Nat.zero_le _, Nat.zero_le _⟩ dX6_way_2 ?_
      refine PW.if_eqB 26 (by decide) dX6_way_5 (fun hc5 => by (first | (exfalso; omega) | (rw [g1] at hc5; cases hc5) | (rw [g2] at hc5; cases hc5) | (rw [g3] at hc5; cases hc5))) (fun hc5 => ?_)
      refine PW.aload_n rfl rfl dX6_way_8 ?_
      refine PW.iload_n rfl rfl dX6_way_9 ?_
      refine PW.cV (ci := 6) (j := 0) _ hS.1 (by decide) rfl kX6_178 (m_isPocket hS hM hD _) rfl rfl (Nat.le_of_ble_eq_true rfl) rfl ⟨by decide, by decide⟩ ⟨Nat.zero_le _, Nat.zero_le _⟩ dX6_way_10 ?_
      refine PW.if_eqB 26 (by decide) dX6_way_13 (fun hc13 => by (first | (exfalso; omega) | (rw [g1] at hc13; cases hc13) | (rw [g2] at hc13; cases hc13) | (rw [g3] at hc13; cases hc13))) (fun hc13 => ?_)
      refine PW.iload_n rfl rfl dX6_way_16 ?_
      refine PW.i2l dX6_way_17 ?_
      refine PW.lconst (v := 0) (by decide) dX6_way_18 ?_
      refine PW.lconst (v := 1) (by decide) dX6_way_19 ?_
      refine PW.cS _ kX6_82 (m_inR _ (h := 1) (n := 2) rfl mem) rfl rfl (Nat.le_of_ble_eq_true rfl) ⟨by decide, by decide⟩ ⟨Nat.zero_le _, Nat.zero_le _⟩ dX6_way_20 ?_
      refine PW.if_neB 28 (by decide) dX6_way_23 (fun hc23 => ?_) (fun hc23 => by (first | (exfalso; omega) | (rw [g1] at hc23; cases hc23) | (rw [g2] at hc23; cases hc23) | (rw [g3] at hc23; cases hc23)))
      refine PW.aload_n rfl rfl dX6_way_28 ?_
      refine PW.iload_n rfl rfl dX6_way_29 ?_
      refine PW.iload_n rfl rfl dX6_way_30 ?_
      refine PW.iload_n rfl rfl dX6_way_31 ?_
      refine PW.iconst (v := nI 1) (by decide) dX6_way_32 ?_
      refine PW.icmp_neN 40 (by decide) (by first | omega | (split <;> omega)) (by first | omega | (split <;> omega)) dX6_way_33 (fun hc33 => ?_) (fun hc33 => by (first | (exfalso; omega) | (rw [g1] at hc33; cases hc33) | (rw [g2] at hc33; cases hc33) | (rw [g3] at hc33; cases hc33)))
      refine PW.iconst (v := nI 0) (by decide) dX6_way_40 ?_
      refine PW.dV (ci := 6) (j := 0) _ hS.1 (by decide) rfl kX6_223 (hl0) rfl rfl (Nat.le_of_ble_eq_true rfl) rfl ⟨by decide, by decide⟩ ⟨Nat.zero_le _, Nat.zero_le _⟩ dX6_way_41 (fun v m1 q => ?_)
      obtain ⟨rfl, hS, hA⟩ := q
      refine PW.istore (by decide) dX6_way_44 (?_ : PW _ _ _ _ [(0, _), (1, _), (2, _), (3, _), (4, _)] _ _ _)
      refine PW.iload rfl dX6_way_46 ?_
      refine PW.ldc cX6_222 dX6_way_48 ?_
      rw [show (100000 : Int32) = nI 100000 from rfl]
      refine PW.icmp_geN 58 (by decide) (by first | omega | (split <;> omega)) (by first | omega | (split <;> omega)) dX6_way_50 (fun hc50 => ?_) (fun hc50 => ?_)
      · refine PW.bipush (v := -9) (by decide) dX6_way_58 ?_
        refine PW.iret rfl (Nat.le_refl _) (Nat.le_refl _) dX6_way_60 ?_
        first | exact ⟨by rw [if_neg (by omega)], hS, hA⟩ | exact ⟨by rw [if_pos (by omega)], hS, hA⟩
      · refine PW.iload rfl dX6_way_53 ?_
        refine PW.goto 60 (by decide) dX6_way_55 ?_
        refine PW.iret rfl (Nat.le_refl _) (Nat.le_refl _) dX6_way_60 ?_
        first | exact ⟨by rw [if_neg (by omega)], hS, hA⟩ | exact ⟨by rw [if_pos (by omega)], hS, hA⟩
    · have hm := lstM_le (R := R) (t := R 13 t) (pr := true) (a := w t) (k := k)
      rw [show decide (1 = 1) = true from rfl]
      generalize lstM R (R 13 t) true (w t) k = q at hl1 hm ⊢
      refine Ret.of (by decide) (Nat.le_of_ble_eq_true rfl) fun l G => ?_
      show PW _ _ _ _ [(0, _), (1, _), (2, _), (3, _)] _ _ _
      refine PW.aload_n rfl rfl dX6_way_0 ?_
      refine PW.iload_n rfl rfl dX6_way_1 ?_
      refine PW.cV (ci := 6) (j := 0) _ hS.1 (by decide) rfl kX6_193 (m_isThing hS hM hD _) rfl rfl (Nat.le_of_ble_eq_true rfl) rfl ⟨by decide, by decide⟩ ⟨Nat.zero_le _, Nat.zero_le _⟩ dX6_way_2 ?_
      refine PW.if_eqB 26 (by decide) dX6_way_5 (fun hc5 => by (first | (exfalso; omega) | (rw [g1] at hc5; cases hc5) | (rw [g2] at hc5; cases hc5) | (rw [g3] at hc5; cases hc5))) (fun hc5 => ?_)
      refine PW.aload_n rfl rfl dX6_way_8 ?_
      refine PW.iload_n rfl rfl dX6_way_9 ?_
      refine PW.cV (ci := 6) (j := 0) _ hS.1 (by decide) rfl kX6_178 (m_isPocket hS hM hD _) rfl rfl (Nat.le_of_ble_eq_true rfl) rfl ⟨by decide, by decide⟩ ⟨Nat.zero_le _, Nat.zero_le _⟩ dX6_way_10 ?_
      refine PW.if_eqB 26 (by decide) dX6_way_13 (fun hc13 => by (first | (exfalso; omega) | (rw [g1] at hc13; cases hc13) | (rw [g2] at hc13; cases hc13) | (rw [g3] at hc13; cases hc13))) (fun hc13 => ?_)
      refine PW.iload_n rfl rfl dX6_way_16 ?_
      refine PW.i2l dX6_way_17 ?_
      refine PW.lconst (v := 0) (by decide) dX6_way_18 ?_
      refine PW.lconst (v := 1) (by decide) dX6_way_19 ?_
      refine PW.cS _ kX6_82 (m_inR _ (h := 1) (n := 2) rfl mem) rfl rfl (Nat.le_of_ble_eq_true rfl) ⟨by decide, by decide⟩ ⟨Nat.zero_le _, Nat.zero_le _⟩ dX6_way_20 ?_
      refine PW.if_neB 28 (by decide) dX6_way_23 (fun hc23 => ?_) (fun hc23 => by (first | (exfalso; omega) | (rw [g1] at hc23; cases hc23) | (rw [g2] at hc23; cases hc23) | (rw [g3] at hc23; cases hc23)))
      refine PW.aload_n rfl rfl dX6_way_28 ?_
      refine PW.iload_n rfl rfl dX6_way_29 ?_
      refine PW.iload_n rfl rfl dX6_way_30 ?_
      refine PW.iload_n rfl rfl dX6_way_31 ?_
      refine PW.iconst (v := nI 1) (by decide) dX6_way_32 ?_
      refine PW.icmp_neN 40 (by decide) (by first | omega | (split <;> omega)) (by first | omega | (split <;> omega)) dX6_way_33 (fun hc33 => by (first | (exfalso; omega) | (rw [g1] at hc33; cases hc33) | (rw [g2] at hc33; cases hc33) | (rw [g3] at hc33; cases hc33))) (fun hc33 => ?_)
      refine PW.iconst (v := nI 1) (by decide) dX6_way_36 ?_
      refine PW.goto 41 (by decide) dX6_way_37 ?_
      refine PW.dV (ci := 6) (j := 0) _ hS.1 (by decide) rfl kX6_223 (hl1) rfl rfl (Nat.le_of_ble_eq_true rfl) rfl ⟨by decide, by decide⟩ ⟨Nat.zero_le _, Nat.zero_le _⟩ dX6_way_41 (fun v m1 q => ?_)
      obtain ⟨rfl, hS, hA⟩ := q
      refine PW.istore (by decide) dX6_way_44 (?_ : PW _ _ _ _ [(0, _), (1, _), (2, _), (3, _), (4, _)] _ _ _)
      refine PW.iload rfl dX6_way_46 ?_
      refine PW.ldc cX6_222 dX6_way_48 ?_
      rw [show (100000 : Int32) = nI 100000 from rfl]
      refine PW.icmp_geN 58 (by decide) (by first | omega | (split <;> omega)) (by first | omega | (split <;> omega)) dX6_way_50 (fun hc50 => ?_) (fun hc50 => ?_)
      · refine PW.bipush (v := -9) (by decide) dX6_way_58 ?_
        refine PW.iret rfl (Nat.le_refl _) (Nat.le_refl _) dX6_way_60 ?_
        first | exact ⟨by rw [if_neg (by omega)], hS, hA⟩ | exact ⟨by rw [if_pos (by omega)], hS, hA⟩
      · refine PW.iload rfl dX6_way_53 ?_
        refine PW.goto 60 (by decide) dX6_way_55 ?_
        refine PW.iret rfl (Nat.le_refl _) (Nat.le_refl _) dX6_way_60 ?_
        first | exact ⟨by rw [if_neg (by omega)], hS, hA⟩ | exact ⟨by rw [if_pos (by omega)], hS, hA⟩
  · rw [wayS, if_neg hg]
    refine Ret.of (by decide) (Nat.le_of_ble_eq_true rfl) fun l G => ?_
    show PW _ _ _ _ [(0, _), (1, _), (2, _), (3, _)] _ _ _
    refine PW.aload_n rfl rfl dX6_way_0 ?_
    refine PW.iload_n rfl rfl dX6_way_1 ?_
    refine PW.cV (ci := 6) (j := 0) _ hS.1 (by decide) rfl kX6_193 (m_isThing hS hM hD _) rfl rfl (Nat.le_of_ble_eq_true rfl) rfl ⟨by decide, by decide⟩ ⟨Nat.zero_le _, Nat.zero_le _⟩ dX6_way_2 ?_
    refine PW.if_eqB 26 (by decide) dX6_way_5 (fun hc5 => ?_) (fun hc5 => ?_)
    · refine PW.iconst (v := -1) (by decide) dX6_way_26 ?_
      refine PW.iret rfl (Nat.le_refl _) (Nat.le_refl _) dX6_way_27 ?_
      exact ⟨rfl, hS, Ag.rf⟩
    · refine PW.aload_n rfl rfl dX6_way_8 ?_
      refine PW.iload_n rfl rfl dX6_way_9 ?_
      refine PW.cV (ci := 6) (j := 0) _ hS.1 (by decide) rfl kX6_178 (m_isPocket hS hM hD _) rfl rfl (Nat.le_of_ble_eq_true rfl) rfl ⟨by decide, by decide⟩ ⟨Nat.zero_le _, Nat.zero_le _⟩ dX6_way_10 ?_
      refine PW.if_eqB 26 (by decide) dX6_way_13 (fun hc13 => ?_) (fun hc13 => ?_)
      · refine PW.iconst (v := -1) (by decide) dX6_way_26 ?_
        refine PW.iret rfl (Nat.le_refl _) (Nat.le_refl _) dX6_way_27 ?_
        exact ⟨rfl, hS, Ag.rf⟩
      · refine PW.iload_n rfl rfl dX6_way_16 ?_
        refine PW.i2l dX6_way_17 ?_
        refine PW.lconst (v := 0) (by decide) dX6_way_18 ?_
        refine PW.lconst (v := 1) (by decide) dX6_way_19 ?_
        refine PW.cS _ kX6_82 (m_inR x (h := 1) (n := 2) rfl mem) rfl rfl (Nat.le_of_ble_eq_true rfl) ⟨by decide, by decide⟩ ⟨Nat.zero_le _, Nat.zero_le _⟩ dX6_way_20 ?_
        refine PW.if_neB 28 (by decide) dX6_way_23 (fun hc23 => by exact absurd ⟨hc5, hc13, hc23⟩ hg) (fun hc23 => ?_)
        refine PW.iconst (v := -1) (by decide) dX6_way_26 ?_
        refine PW.iret rfl (Nat.le_refl _) (Nat.le_refl _) dX6_way_27 ?_
        exact ⟨rfl, hS, Ag.rf⟩
end WAY2
