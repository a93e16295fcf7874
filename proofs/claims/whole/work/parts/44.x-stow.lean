/-! ===== stow: the class ===== -/
section XSTW
variable {b s : Nat} {sc : pw_E} {mem : pw_M} {R : DR} {w : Nat → Nat} {p : Int32} {d : Nat}
/-- how many of the first pockets could hold a thing, were it alone -/
def plcN (R : DR) (t : Nat) : Nat → Nat
  | 0 => 0
  | k + 1 => plcN R t k + if letN R k (R 13 t) = true ∧ R 14 t ≤ R 3 k then 1 else 0
def plcB (R : DR) : Nat → Bool
  | 0 => true
  | t + 1 => plcB R t && decide (plcN R t (R 0 0) ≠ 0)
theorem plcN_le {R : DR} {t : Nat} : ∀ n, plcN R t n ≤ n
  | 0 => Nat.le_refl _
  | n + 1 => by
    have ih := plcN_le (R := R) (t := t) n
    rw [plcN]
    split <;> omega
theorem plcB_off {R : DR} {k : Nat} (h : plcB R k = false) : ∀ {n}, k ≤ n → plcB R n = false := by
  intro n hn
  induction n with
  | zero => rw [show k = 0 by omega] at h; exact h
  | succ n ih =>
    by_cases e : k = n + 1
    · rw [← e]; exact h
    · rw [plcB, ih (by omega), Bool.false_and]
theorem plcN_0 {R : DR} {t k : Nat} (h : letN R k (R 13 t) = true ∧ R 14 t ≤ R 3 k) : ∀ n, k < n → plcN R t n ≠ 0
  | 0, hk => absurd hk (Nat.not_lt_zero _)
  | n + 1, hk => by
    rw [plcN]
    by_cases e : k = n
    · rw [← e, if_pos h]; omega
    · have := plcN_0 h n (by omega)
      omega
theorem okL_at {R : DR} {ρ : Nat → Nat} {j : Nat} : ∀ n, j < n → okL R ρ n = true → letN R (ρ j) (R 13 j) = true
  | 0, h, _ => absurd h (Nat.not_lt_zero _)
  | n + 1, h, q => by
    rw [okL, Bool.and_eq_true_iff] at q
    by_cases e : j = n
    · rw [e]; exact q.2
    · exact okL_at n (by omega) q.1
theorem fillN_at {R : DR} {ρ : Nat → Nat} {j : Nat} : ∀ n, j < n → R 14 j ≤ fillN R ρ (ρ j) n
  | 0, h => absurd h (Nat.not_lt_zero _)
  | n + 1, h => by
    rw [fillN]
    by_cases e : j = n
    · rw [e, if_pos rfl]; omega
    · have := fillN_at (R := R) (ρ := ρ) n (show j < n by omega)
      omega
theorem plcB_no {R : DR} (hw : ∀ t, t < R 1 0 → 0 < R 0 0) {M r : Nat} (h : GD R w M r) : ∀ n, n ≤ R 1 0 → plcB R n = true
  | 0, _ => rfl
  | n + 1, hn => by
    rw [plcB, plcB_no hw h n (by omega), Bool.true_and]
    obtain ⟨h1, h2⟩ := okR_iff.mp h.1
    have hp : pD (R 0 0) (R 1 0) r n < R 0 0 := Nat.mod_lt _ (hw n (by omega))
    exact decide_eq_true (plcN_0 ⟨okL_at _ (by omega) h1, Nat.le_trans (fillN_at _ (by omega)) (h2 _ hp)⟩ _ hp)
set_option maxHeartbeats 8000000 in
theorem x_eachHasAPlace (hS : St b s sc mem) (hX : XD mem b R) (hL : XL mem b R) (hD : Dat R) : Rf 1 mX3_eachHasAPlace [.ref b] mem (some (.int (bI (plcB R (R 1 0))))) mem := by
  have h6 := hD.1
  have hT := hD.2.1
  have hb := hS.b
  refine Ret.of (by decide) (Nat.le_of_ble_eq_true rfl) fun l G => ?_
  show PW _ _ _ _ [(0, _)] _ _ _
  refine PW.iconst (v := nI 0) (by decide) dX3_eachHasAPlace_0 ?_
  refine PW.istore_n rfl (by decide) dX3_eachHasAPlace_1 (?_ : PW _ _ _ _ [(0, _), (1, _)] _ _ _)
  skip
  refine PW.loop (σ := Unit) (I := fun t _ => plcB R t = true) (fun t _ => [(0, .ref b), (1, .int (nI t))]) (fun _ _ => mem) (R 1 0) (fun t _ ht hI ih => ?_) (fun _ hI => ?_) () rfl
  · have q14 := (hD.2.2.2.2.2.2 t ht).2.2.1
    have d13 := (hD.2.2.2.2.2.2 t ht).1
    have hpl := plcN_le (R := R) (t := t) (R 0 0)
    refine PW.iload_n rfl rfl dX3_eachHasAPlace_2 ?_
    refine PW.aload_n rfl rfl dX3_eachHasAPlace_3 ?_
    refine PW.gI hS.1 (by have := hS.b; omega) (skR1 hS.b) (hX.2.1) fX3_22 dX3_eachHasAPlace_4 ?_
    refine PW.icmp_geN 76 (by decide) (by first | omega | (split <;> omega)) (by first | omega | (split <;> omega)) dX3_eachHasAPlace_7 (fun hc7 => by exfalso; omega) (fun hc7 => ?_)
    refine PW.iconst (v := nI 0) (by decide) dX3_eachHasAPlace_10 ?_
    refine PW.istore_n rfl (by decide) dX3_eachHasAPlace_11 (?_ : PW _ _ _ _ [(0, _), (1, _), (2, _)] _ _ _)
    refine PW.iconst (v := nI 0) (by decide) dX3_eachHasAPlace_12 ?_
    refine PW.istore_n rfl (by decide) dX3_eachHasAPlace_13 (?_ : PW _ _ _ _ [(0, _), (1, _), (2, _), (3, _)] _ _ _)
    skip
    refine PW.up (fun k => [(0, .ref b), (1, .int (nI t)), (2, .int (nI (plcN R t k))), (3, .int (nI k))]) (fun _ => mem) (R 0 0) (fun k hk ih2 => ?_) ?_
    · have hl := letsN_lt R k 6
      have hbt := letsN_bit R k 6 (R 13 t)
      rw [decide_eq_true d13, Bool.true_and] at hbt
      have hs3 := (hD.2.2.2.1 k hk).2.1
      have ep : plcN R t (k + 1) = plcN R t k + if letN R k (R 13 t) = true ∧ R 14 t ≤ R 3 k then 1 else 0 := rfl
      refine PW.iload_n rfl rfl dX3_eachHasAPlace_14 ?_
      refine PW.aload_n rfl rfl dX3_eachHasAPlace_15 ?_
      refine PW.gI hS.1 (by have := hS.b; omega) (skR0 hS.b) (hX.1) fX3_38 dX3_eachHasAPlace_16 ?_
      refine PW.icmp_geN 64 (by decide) (by first | omega | (split <;> omega)) (by first | omega | (split <;> omega)) dX3_eachHasAPlace_19 (fun hc19 => by exfalso; omega) (fun hc19 => ?_)
      refine PW.aload_n rfl rfl dX3_eachHasAPlace_22 ?_
      refine PW.gR hS.1 (by have := hS.b; omega) (skR17 hS.b) fX3_41 dX3_eachHasAPlace_23 ?_
      refine PW.iload_n rfl rfl dX3_eachHasAPlace_26 ?_
      refine PW.aI hS.1 (by have := hS.b; omega) (akR21 hS.b) (by exact rfl) ⟨by omega, by decide⟩ (hL.1 k hk) dX3_eachHasAPlace_27 ?_
      refine PW.aload_n rfl rfl dX3_eachHasAPlace_28 ?_
      refine PW.gR hS.1 (by have := hS.b; omega) (skR13 hS.b) fX3_44 dX3_eachHasAPlace_29 ?_
      refine PW.iload_n rfl rfl dX3_eachHasAPlace_32 ?_
      refine PW.aI hS.1 (by have := hS.b; omega) (akR17 hS.b) (by exact rfl) ⟨by omega, by decide⟩ ((hX.2.2.2.2.2.2 t ht).1) dX3_eachHasAPlace_33 ?_
      refine PW.cSN _ kX3_47 (x_has (a := letsN R k 6) (k := R 13 t) (by omega) (by omega) mem) rfl rfl (Nat.le_of_ble_eq_true rfl) ⟨by decide, by decide⟩ ⟨Nat.zero_le _, Nat.zero_le _⟩ dX3_eachHasAPlace_34 ?_
      refine PW.if_eqB 58 (by decide) dX3_eachHasAPlace_37 (fun hc37 => ?_) (fun hc37 => ?_)
      · refine PW.iincN rfl (by decide) dX3_eachHasAPlace_58 (?_ : PW _ _ _ _ [(0, _), (1, _), (2, _), (3, _)] _ _ _)
        refine PW.goto 14 (by decide) dX3_eachHasAPlace_61 ?_
        first | (rw [ep, if_neg (fun h => Bool.noConfusion (hc37.symm.trans (hbt.trans h.1)))] at ih2; exact ih2) | (rw [ep, if_neg (fun h => by omega)] at ih2; exact ih2) | (rw [ep, if_pos ⟨hbt.symm.trans hc37, by omega⟩] at ih2; exact ih2)
      · refine PW.aload_n rfl rfl dX3_eachHasAPlace_40 ?_
        refine PW.gR hS.1 (by have := hS.b; omega) (skR14 hS.b) fX3_51 dX3_eachHasAPlace_41 ?_
        refine PW.iload_n rfl rfl dX3_eachHasAPlace_44 ?_
        refine PW.aI hS.1 (by have := hS.b; omega) (akR18 hS.b) (by exact rfl) ⟨by omega, by decide⟩ ((hX.2.2.2.2.2.2 t ht).2.1) dX3_eachHasAPlace_45 ?_
        refine PW.aload_n rfl rfl dX3_eachHasAPlace_46 ?_
        refine PW.gR hS.1 (by have := hS.b; omega) (skR3 hS.b) fX3_54 dX3_eachHasAPlace_47 ?_
        refine PW.iload_n rfl rfl dX3_eachHasAPlace_50 ?_
        refine PW.aI hS.1 (by have := hS.b; omega) (akR1 hS.b) (by exact rfl) ⟨by omega, by decide⟩ ((hX.2.2.2.1 k hk).1) dX3_eachHasAPlace_51 ?_
        refine PW.icmp_gtN 58 (by decide) (by first | omega | (split <;> omega)) (by first | omega | (split <;> omega)) dX3_eachHasAPlace_52 (fun hc52 => ?_) (fun hc52 => ?_)
        · refine PW.iincN rfl (by decide) dX3_eachHasAPlace_58 (?_ : PW _ _ _ _ [(0, _), (1, _), (2, _), (3, _)] _ _ _)
          refine PW.goto 14 (by decide) dX3_eachHasAPlace_61 ?_
          first | (rw [ep, if_neg (fun h => Bool.noConfusion (hc37.symm.trans (hbt.trans h.1)))] at ih2; exact ih2) | (rw [ep, if_neg (fun h => by omega)] at ih2; exact ih2) | (rw [ep, if_pos ⟨hbt.symm.trans hc37, by omega⟩] at ih2; exact ih2)
        · refine PW.iincN rfl (by decide) dX3_eachHasAPlace_55 (?_ : PW _ _ _ _ [(0, _), (1, _), (2, _), (3, _)] _ _ _)
          refine PW.iincN rfl (by decide) dX3_eachHasAPlace_58 (?_ : PW _ _ _ _ [(0, _), (1, _), (2, _), (3, _)] _ _ _)
          refine PW.goto 14 (by decide) dX3_eachHasAPlace_61 ?_
          first | (rw [ep, if_neg (fun h => Bool.noConfusion (hc37.symm.trans (hbt.trans h.1)))] at ih2; exact ih2) | (rw [ep, if_neg (fun h => by omega)] at ih2; exact ih2) | (rw [ep, if_pos ⟨hbt.symm.trans hc37, by omega⟩] at ih2; exact ih2)
    · refine PW.iload_n rfl rfl dX3_eachHasAPlace_14 ?_
      refine PW.aload_n rfl rfl dX3_eachHasAPlace_15 ?_
      refine PW.gI hS.1 (by have := hS.b; omega) (skR0 hS.b) (hX.1) fX3_38 dX3_eachHasAPlace_16 ?_
      refine PW.icmp_geN 64 (by decide) (by first | omega | (split <;> omega)) (by first | omega | (split <;> omega)) dX3_eachHasAPlace_19 (fun hc19 => ?_) (fun hc19 => by exfalso; omega)
      refine PW.iload_n rfl rfl dX3_eachHasAPlace_64 ?_
      refine PW.if_neN 70 (by decide) (by first | omega | (split <;> omega)) dX3_eachHasAPlace_65 (fun hc65 => ?_) (fun hc65 => ?_)
      · refine PW.iincN rfl (by decide) dX3_eachHasAPlace_70 (?_ : PW _ _ _ _ [(0, _), (1, _), (2, _), (3, _)] _ _ _)
        refine PW.goto 2 (by decide) dX3_eachHasAPlace_73 ?_
        refine PW.drop _ (fun r h => List.mem_of_mem_take (i := 2) h) (ih () ?_)
        rw [plcB, hI, Bool.true_and]
        exact decide_eq_true hc65
      · refine PW.iconst (v := nI 0) (by decide) dX3_eachHasAPlace_68 ?_
        refine PW.zret rfl (by first | exact bI_nar _ | rfl) (Nat.le_refl _) (Nat.le_refl _) dX3_eachHasAPlace_69 ?_
        exact ⟨by rw [plcB_off (k := t + 1) (by rw [plcB, hI, Bool.true_and, hc65]; rfl) (by omega)]; rfl, rfl⟩
  · refine PW.iload_n rfl rfl dX3_eachHasAPlace_2 ?_
    refine PW.aload_n rfl rfl dX3_eachHasAPlace_3 ?_
    refine PW.gI hS.1 (by have := hS.b; omega) (skR1 hS.b) (hX.2.1) fX3_22 dX3_eachHasAPlace_4 ?_
    refine PW.icmp_geN 76 (by decide) (by first | omega | (split <;> omega)) (by first | omega | (split <;> omega)) dX3_eachHasAPlace_7 (fun hc7 => ?_) (fun hc7 => by exfalso; omega)
    refine PW.iconst (v := nI 1) (by decide) dX3_eachHasAPlace_76 ?_
    refine PW.zret rfl (by first | exact bI_nar _ | rfl) (Nat.le_refl _) (Nat.le_refl _) dX3_eachHasAPlace_77 ?_
    exact ⟨by rw [hI]; rfl, rfl⟩
theorem fill_0 {R : DR} {ρ : Nat → Nat} {k : Nat} : fillN R ρ k 0 = 0 := rfl
set_option maxHeartbeats 8000000 in
theorem x_fewestMoved (hS : St b s sc mem) (hX : XD mem b R) (hL : XL mem b R) (hD : Dat R) (hN : XN mem 13 (R 1 0) w p d) (hw : ∀ t, t < R 1 0 → w t < R 0 0) : Ret 8 0 0 mX3_fewestMoved [.ref 43, .ref b, .ref 13] mem (fun v m1 => v = some (.int (if (stB R w (R 0 0 ^ R 1 0)).1 = 100000 then -9 else nI (stB R w (R 0 0 ^ R 1 0)).1)) ∧ St b s sc m1 ∧ Ag (fun r => r ≠ 44 ∧ r ≠ 45) mem m1 ∧ ((stB R w (R 0 0 ^ R 1 0)).1 ≠ 100000 → (stB R w (R 0 0 ^ R 1 0)).1 ≤ 6 ∧ ∀ j, j < R 1 0 → iv m1 44 j = nI (pD (R 0 0) (R 1 0) (stB R w (R 0 0 ^ R 1 0)).2 j))) := by
  have h6 := hD.1
  have hT := hD.2.1
  have hb := hS.b
  have hnone : (∀ M r, M ≤ R 1 0 → r < R 0 0 ^ R 1 0 → ¬ GD R w M r) → (stB R w (R 0 0 ^ R 1 0)).1 = 100000 := fun h => by
    rcases stB_spec (R := R) (w := w) hT (R 0 0 ^ R 1 0) with q | q
    · exact q.1
    · exact absurd ⟨q.2.2.1.1, cntN_n _⟩ (h (R 1 0) _ (Nat.le_refl _) q.2.1)
  cases hpb : plcB R (R 1 0)
  · have e := hnone (fun M r _ _ g => by
      have := plcB_no (fun t ht => Nat.lt_of_le_of_lt (Nat.zero_le _) (hw t ht)) g (R 1 0) (Nat.le_refl _)
      rw [hpb] at this
      cases this)
    refine Ret.of (by decide) (Nat.le_of_ble_eq_true rfl) fun l G => ?_
    show PW _ _ _ _ [(0, _), (1, _), (2, _)] _ _ _
    refine PW.aload_n rfl rfl dX3_fewestMoved_0 ?_
    refine PW.cS _ kX3_18 (x_eachHasAPlace hS hX hL hD) rfl rfl (Nat.le_of_ble_eq_true rfl) ⟨by decide, by decide⟩ ⟨Nat.zero_le _, Nat.zero_le _⟩ dX3_fewestMoved_1 ?_
    refine PW.if_neB 10 (by decide) dX3_fewestMoved_4 (fun hc4 => by (rw [hpb] at hc4; cases hc4)) (fun hc4 => ?_)
    refine PW.bipush (v := -9) (by decide) dX3_fewestMoved_7 ?_
    refine PW.iret rfl (Nat.le_refl _) (Nat.le_refl _) dX3_fewestMoved_9 ?_
    exact ⟨by rw [if_pos e], hS, Ag.rf, fun h => absurd e h⟩
  refine Ret.of (by decide) (Nat.le_of_ble_eq_true rfl) fun l G => ?_
  show PW _ _ _ _ [(0, _), (1, _), (2, _)] _ _ _
  refine PW.aload_n rfl rfl dX3_fewestMoved_0 ?_
  refine PW.cS _ kX3_18 (x_eachHasAPlace hS hX hL hD) rfl rfl (Nat.le_of_ble_eq_true rfl) ⟨by decide, by decide⟩ ⟨Nat.zero_le _, Nat.zero_le _⟩ dX3_fewestMoved_1 ?_
  refine PW.if_neB 10 (by decide) dX3_fewestMoved_4 (fun hc4 => ?_) (fun hc4 => by (rw [hpb] at hc4; cases hc4))
  refine PW.iconst (v := nI 0) (by decide) dX3_fewestMoved_10 ?_
  refine PW.istore_n rfl (by decide) dX3_fewestMoved_11 (?_ : PW _ _ _ _ [(0, _), (1, _), (2, _), (3, _)] _ _ _)
  skip
  refine PW.loop (I := fun M m => St b s sc m ∧ Ag (fun r => r ≠ 44 ∧ r ≠ 45) mem m ∧ ∀ M', M' < M → ∀ r, r < R 0 0 ^ R 1 0 → ¬ GD R w M' r) (fun M _ => [(0, .ref 43), (1, .ref b), (2, .ref 13), (3, .int (nI M))]) (fun _ m => m) (R 1 0 + 1) (fun M m hM hI ih => ?_) (fun m hI => ?_) _ ⟨hS, Ag.rf, fun M' h => absurd h (Nat.not_lt_zero _)⟩
  · obtain ⟨hS, hA, hno⟩ := hI
    have hX2 := hX.ag hA (fun r h1 h2 => by omega)
    refine PW.iload_n rfl rfl dX3_fewestMoved_12 ?_
    refine PW.aload_n rfl rfl dX3_fewestMoved_13 ?_
    refine PW.gI hS.1 (by have := hS.b; omega) (skR1 hS.b) (hX2.2.1) fX3_22 dX3_fewestMoved_14 ?_
    refine PW.icmp_gtN 47 (by decide) (by first | omega | (split <;> omega)) (by first | omega | (split <;> omega)) dX3_fewestMoved_17 (fun hc17 => by (exfalso; omega)) (fun hc17 => ?_)
    refine PW.aload_n rfl rfl dX3_fewestMoved_20 ?_
    refine PW.gR hS.1 (by decide) rfl fX3_15 dX3_fewestMoved_21 ?_
    refine PW.iconst (v := nI 0) (by decide) dX3_fewestMoved_24 ?_
    refine PW.dS _ kX3_28 (j_fill hS (r := 45) (by decide) rfl (nI 0)) rfl rfl (Nat.le_of_ble_eq_true rfl) ⟨by decide, by decide⟩ ⟨Nat.zero_le _, Nat.zero_le _⟩ dX3_fewestMoved_25 (fun v m1 q => ?_)
    obtain ⟨rfl, hS, hA1, hf⟩ := q
    skip
    have hA2 : Ag (fun r => r ≠ 44 ∧ r ≠ 45) mem m1 := hA.tr (hA1.mono (fun r h => h.2))
    have hcall := x_putFrom hD hw M (by omega) (R 1 0) m1 0 0 M hS (hX.ag hA2 (fun r h1 h2 => by omega)) (hL.ag hA2 (by omega) (by omega)) (hN.ag hA2 (by decide) (by decide)) (by omega) (fun j hj => absurd hj (Nat.not_lt_zero _)) (fun k hk => hf k (by omega)) rfl (fun k hk => Nat.zero_le _) (Nat.zero_add M)
    refine PW.aload_n rfl rfl dX3_fewestMoved_28 ?_
    refine PW.aload_n rfl rfl dX3_fewestMoved_29 ?_
    refine PW.aload_n rfl rfl dX3_fewestMoved_30 ?_
    refine PW.iconst (v := nI 0) (by decide) dX3_fewestMoved_31 ?_
    refine PW.iload_n rfl rfl dX3_fewestMoved_32 ?_
    refine PW.dS _ kX3_34 (hcall) rfl rfl (Nat.le_of_ble_eq_true rfl) ⟨by show R 1 0 + 1 + 1 ≤ 8; omega, by show 100 * (R 1 0 + 1) + 100 ≤ 100 * 8; omega⟩ ⟨Nat.zero_le _, Nat.zero_le _⟩ dX3_fewestMoved_33 (fun v m1 q => ?_)
    obtain ⟨hS, hA3, hres⟩ := q
    skip
    have hblk : ∀ r, r / R 0 0 ^ R 1 0 = 0 ↔ r < R 0 0 ^ R 1 0 := fun r => by
      have hp : 0 < R 0 0 ^ R 1 0 := by
        by_cases e : R 1 0 = 0
        · rw [e, Nat.pow_zero]; exact Nat.one_pos
        · exact Nat.pow_pos (Nat.lt_of_le_of_lt (Nat.zero_le _) (hw 0 (by omega)))
      exact ⟨fun h => (Nat.div_eq_zero_iff_lt hp).mp h, fun h => Nat.div_eq_of_lt h⟩
    rcases hres with ⟨rfl, r, g1, g2, g3, g4⟩ | ⟨rfl, g1, g2, g3⟩
    · obtain ⟨e1, e2⟩ := stB_uni hT ((hblk r).mp g1) g2 (fun r' h => g3 r' ((hblk r').mpr (Nat.lt_trans h ((hblk r).mp g1))) h) hno
      refine PW.if_eqN 41 (by decide) (by first | omega | (split <;> omega)) dX3_fewestMoved_36 (fun hc36 => by (exfalso; omega)) (fun hc36 => ?_)
      refine PW.iload_n rfl rfl dX3_fewestMoved_39 ?_
      refine PW.iret rfl (Nat.le_refl _) (Nat.le_refl _) dX3_fewestMoved_40 ?_
      refine ⟨by rw [if_neg e2, e1], hS, hA2.tr hA3, fun _ => ?_⟩
      rw [e1]
      exact ⟨by show M ≤ 6; omega, g4⟩
    · refine PW.if_eqN 41 (by decide) (by first | omega | (split <;> omega)) dX3_fewestMoved_36 (fun hc36 => ?_) (fun hc36 => by (exfalso; omega))
      refine PW.iincN rfl (by decide) dX3_fewestMoved_41 (?_ : PW _ _ _ _ [(0, _), (1, _), (2, _), (3, _)] _ _ _)
      refine PW.goto 12 (by decide) dX3_fewestMoved_44 ?_
      refine ih _ ⟨hS, hA2.tr hA3, fun M' h r hr => ?_⟩
      by_cases e : M' = M
      · rw [e]; exact g1 r ((hblk r).mpr hr)
      · exact hno M' (by omega) r hr
  · obtain ⟨hS, hA, hno⟩ := hI
    have hX2 := hX.ag hA (fun r h1 h2 => by omega)
    have e := hnone (fun M r hM hr => hno M (by omega) r hr)
    refine PW.iload_n rfl rfl dX3_fewestMoved_12 ?_
    refine PW.aload_n rfl rfl dX3_fewestMoved_13 ?_
    refine PW.gI hS.1 (by have := hS.b; omega) (skR1 hS.b) (hX2.2.1) fX3_22 dX3_fewestMoved_14 ?_
    refine PW.icmp_gtN 47 (by decide) (by first | omega | (split <;> omega)) (by first | omega | (split <;> omega)) dX3_fewestMoved_17 (fun hc17 => ?_) (fun hc17 => by (exfalso; omega))
    refine PW.bipush (v := -9) (by decide) dX3_fewestMoved_47 ?_
    refine PW.iret rfl (Nat.le_refl _) (Nat.le_refl _) dX3_fewestMoved_49 ?_
    exact ⟨by rw [if_pos e], hS, hA, fun h => absurd e h⟩
set_option maxHeartbeats 8000000 in
theorem x_stow (hS : St b s sc mem) (hX : XD mem b R) (hL : XL mem b R) (hD : Dat R) (hN : XN mem 13 (R 1 0) w p d) (hw : ∀ t, t < R 1 0 → w t < R 0 0) (t : Int32) : Ret 9 0 0 mX5_stow [.ref 9, .int t] mem (fun v m1 => v = some (.int (stwS R w t)) ∧ St b s sc m1 ∧ Ag (fun r => r ≠ 44 ∧ r ≠ 45) mem m1) := by
  have h6 := hD.1
  have hT := hD.2.1
  have hb := hS.b
  by_cases hg : t = -1 ∨ inR t (R 1 0) = true
  · rw [stwS, if_pos hg]
    have hcall := x_fewestMoved hS hX hL hD hN hw
    have h9 : ∀ n, n ≤ 6 → ¬ nI n = -9 := by decide
    generalize hq : stB R w (R 0 0 ^ R 1 0) = q at hcall ⊢
    by_cases ht1 : t = -1
    · subst ht1
      refine Ret.of (by decide) (Nat.le_of_ble_eq_true rfl) fun l G => ?_
      show PW _ _ _ _ [(0, _), (1, _)] _ _ _
      refine PW.iload_n rfl rfl dX5_stow_0 ?_
      refine PW.iconst (v := -1) (by decide) dX5_stow_1 ?_
      refine PW.icmp_eq 15 (by decide) dX5_stow_2 (fun hc2 => ?_) (fun hc2 => by exact absurd rfl hc2)
      refine PW.aload_n rfl rfl dX5_stow_15 ?_
      refine PW.gR hS.1 (by decide) rfl fX5_41 dX5_stow_16 ?_
      refine PW.aload_n rfl rfl dX5_stow_19 ?_
      refine PW.gV hS.1 (by decide) rfl hS.2.1 fX5_58 dX5_stow_20 ?_
      refine PW.aload_n rfl rfl dX5_stow_23 ?_
      refine PW.gR hS.1 (by decide) rfl fX5_19 dX5_stow_24 ?_
      refine PW.dV (ci := 3) (j := 0) _ hS.1 (by decide) rfl kX5_190 (hcall) rfl rfl (Nat.le_of_ble_eq_true rfl) rfl ⟨by decide, by decide⟩ ⟨Nat.zero_le _, Nat.zero_le _⟩ dX5_stow_27 (fun v m1 q => ?_)
      obtain ⟨rfl, hS, hA, hpl⟩ := q
      refine PW.istore_n rfl (by decide) dX5_stow_30 (?_ : PW _ _ _ _ [(0, _), (1, _), (2, _)] _ _ _)
      refine PW.iload_n rfl rfl dX5_stow_31 ?_
      refine PW.bipush (v := -9) (by decide) dX5_stow_32 ?_
      refine PW.icmp_eq 42 (by decide) dX5_stow_34 (fun hc34 => ?_) (fun hc34 => ?_)
      · refine PW.iload_n rfl rfl dX5_stow_42 ?_
        refine PW.goto 55 (by decide) dX5_stow_43 ?_
        refine PW.iret rfl (Nat.le_refl _) (Nat.le_refl _) dX5_stow_55 ?_
        exact ⟨by rw [if_pos (rfl : (-1 : Int32) = -1)], hS, hA⟩
      · refine PW.iload_n rfl rfl dX5_stow_37 ?_
        refine PW.iconst (v := -1) (by decide) dX5_stow_38 ?_
        refine PW.icmp_ne 46 (by decide) dX5_stow_39 (fun hc39 => by exact absurd rfl hc39) (fun hc39 => ?_)
        refine PW.iload_n rfl rfl dX5_stow_42 ?_
        refine PW.goto 55 (by decide) dX5_stow_43 ?_
        refine PW.iret rfl (Nat.le_refl _) (Nat.le_refl _) dX5_stow_55 ?_
        exact ⟨by rw [if_pos (rfl : (-1 : Int32) = -1)], hS, hA⟩
    · have hg2 := hg.resolve_left ht1
      obtain ⟨j, hj, rfl⟩ := inR_of hg2
      rw [if_neg ht1, cl_nI (by omega)]
      by_cases hq1 : q.1 = 100000
      · rw [if_pos hq1] at hcall ⊢
        refine Ret.of (by decide) (Nat.le_of_ble_eq_true rfl) fun l G => ?_
        show PW _ _ _ _ [(0, _), (1, _)] _ _ _
        refine PW.iload_n rfl rfl dX5_stow_0 ?_
        refine PW.iconst (v := -1) (by decide) dX5_stow_1 ?_
        refine PW.icmp_eq 15 (by decide) dX5_stow_2 (fun hc2 => by (first | exact absurd hc2 ht1 | exact absurd rfl hc2 | (rw [hg2] at hc2; cases hc2))) (fun hc2 => ?_)
        refine PW.aload_n rfl rfl dX5_stow_5 ?_
        refine PW.iload_n rfl rfl dX5_stow_6 ?_
        refine PW.cV (ci := 5) (j := 0) _ hS.1 (by decide) rfl kX5_122 (x_isThing hS hX hD _) rfl rfl (Nat.le_of_ble_eq_true rfl) rfl ⟨by decide, by decide⟩ ⟨Nat.zero_le _, Nat.zero_le _⟩ dX5_stow_7 ?_
        refine PW.if_neB 15 (by decide) dX5_stow_10 (fun hc10 => ?_) (fun hc10 => by (first | exact absurd hc10 ht1 | exact absurd rfl hc10 | (rw [hg2] at hc10; cases hc10)))
        refine PW.aload_n rfl rfl dX5_stow_15 ?_
        refine PW.gR hS.1 (by decide) rfl fX5_41 dX5_stow_16 ?_
        refine PW.aload_n rfl rfl dX5_stow_19 ?_
        refine PW.gV hS.1 (by decide) rfl hS.2.1 fX5_58 dX5_stow_20 ?_
        refine PW.aload_n rfl rfl dX5_stow_23 ?_
        refine PW.gR hS.1 (by decide) rfl fX5_19 dX5_stow_24 ?_
        refine PW.dV (ci := 3) (j := 0) _ hS.1 (by decide) rfl kX5_190 (hcall) rfl rfl (Nat.le_of_ble_eq_true rfl) rfl ⟨by decide, by decide⟩ ⟨Nat.zero_le _, Nat.zero_le _⟩ dX5_stow_27 (fun v m1 q => ?_)
        obtain ⟨rfl, hS, hA, hpl⟩ := q
        refine PW.istore_n rfl (by decide) dX5_stow_30 (?_ : PW _ _ _ _ [(0, _), (1, _), (2, _)] _ _ _)
        refine PW.iload_n rfl rfl dX5_stow_31 ?_
        refine PW.bipush (v := -9) (by decide) dX5_stow_32 ?_
        refine PW.icmp_eq 42 (by decide) dX5_stow_34 (fun hc34 => ?_) (fun hc34 => by (first | exact absurd hc34 ht1 | exact absurd rfl hc34 | (rw [hg2] at hc34; cases hc34)))
        refine PW.iload_n rfl rfl dX5_stow_42 ?_
        refine PW.goto 55 (by decide) dX5_stow_43 ?_
        refine PW.iret rfl (Nat.le_refl _) (Nat.le_refl _) dX5_stow_55 ?_
        exact ⟨rfl, hS, hA⟩
      · rw [if_neg hq1] at hcall ⊢
        refine Ret.of (by decide) (Nat.le_of_ble_eq_true rfl) fun l G => ?_
        show PW _ _ _ _ [(0, _), (1, _)] _ _ _
        refine PW.iload_n rfl rfl dX5_stow_0 ?_
        refine PW.iconst (v := -1) (by decide) dX5_stow_1 ?_
        refine PW.icmp_eq 15 (by decide) dX5_stow_2 (fun hc2 => by (first | exact absurd hc2 ht1 | (rw [hg2] at hc2; cases hc2) | exact absurd hc2 (h9 _ (hpl hq1).1))) (fun hc2 => ?_)
        refine PW.aload_n rfl rfl dX5_stow_5 ?_
        refine PW.iload_n rfl rfl dX5_stow_6 ?_
        refine PW.cV (ci := 5) (j := 0) _ hS.1 (by decide) rfl kX5_122 (x_isThing hS hX hD _) rfl rfl (Nat.le_of_ble_eq_true rfl) rfl ⟨by decide, by decide⟩ ⟨Nat.zero_le _, Nat.zero_le _⟩ dX5_stow_7 ?_
        refine PW.if_neB 15 (by decide) dX5_stow_10 (fun hc10 => ?_) (fun hc10 => by (first | exact absurd hc10 ht1 | (rw [hg2] at hc10; cases hc10) | exact absurd hc10 (h9 _ (hpl hq1).1)))
        refine PW.aload_n rfl rfl dX5_stow_15 ?_
        refine PW.gR hS.1 (by decide) rfl fX5_41 dX5_stow_16 ?_
        refine PW.aload_n rfl rfl dX5_stow_19 ?_
        refine PW.gV hS.1 (by decide) rfl hS.2.1 fX5_58 dX5_stow_20 ?_
        refine PW.aload_n rfl rfl dX5_stow_23 ?_
        refine PW.gR hS.1 (by decide) rfl fX5_19 dX5_stow_24 ?_
        refine PW.dV (ci := 3) (j := 0) _ hS.1 (by decide) rfl kX5_190 (hcall) rfl rfl (Nat.le_of_ble_eq_true rfl) rfl ⟨by decide, by decide⟩ ⟨Nat.zero_le _, Nat.zero_le _⟩ dX5_stow_27 (fun v m1 q => ?_)
        obtain ⟨rfl, hS, hA, hpl⟩ := q
        refine PW.istore_n rfl (by decide) dX5_stow_30 (?_ : PW _ _ _ _ [(0, _), (1, _), (2, _)] _ _ _)
        refine PW.iload_n rfl rfl dX5_stow_31 ?_
        refine PW.bipush (v := -9) (by decide) dX5_stow_32 ?_
        refine PW.icmp_eq 42 (by decide) dX5_stow_34 (fun hc34 => by (first | exact absurd hc34 ht1 | (rw [hg2] at hc34; cases hc34) | exact absurd hc34 (h9 _ (hpl hq1).1))) (fun hc34 => ?_)
        refine PW.iload_n rfl rfl dX5_stow_37 ?_
        refine PW.iconst (v := -1) (by decide) dX5_stow_38 ?_
        refine PW.icmp_ne 46 (by decide) dX5_stow_39 (fun hc39 => ?_) (fun hc39 => by (first | exact absurd hc39 ht1 | (rw [hg2] at hc39; cases hc39) | exact absurd hc39 (h9 _ (hpl hq1).1)))
        refine PW.aload_n rfl rfl dX5_stow_46 ?_
        refine PW.gR hS.1 (by decide) rfl fX5_41 dX5_stow_47 ?_
        refine PW.gR hS.1 (by decide) rfl fX5_194 dX5_stow_50 ?_
        refine PW.iload_n rfl rfl dX5_stow_53 ?_
        refine PW.aI hS.1 (by decide) rfl (by exact rfl) ⟨by omega, by decide⟩ ((hpl hq1).2 j hj) dX5_stow_54 ?_
        refine PW.iret rfl (Nat.le_refl _) (Nat.le_refl _) dX5_stow_55 ?_
        exact ⟨rfl, hS, hA⟩
  · rw [stwS, if_neg hg]
    refine Ret.of (by decide) (Nat.le_of_ble_eq_true rfl) fun l G => ?_
    show PW _ _ _ _ [(0, _), (1, _)] _ _ _
    refine PW.iload_n rfl rfl dX5_stow_0 ?_
    refine PW.iconst (v := -1) (by decide) dX5_stow_1 ?_
    refine PW.icmp_eq 15 (by decide) dX5_stow_2 (fun hc2 => by (first | exact absurd (Or.inl hc2) hg | exact absurd (Or.inr hc2) hg)) (fun hc2 => ?_)
    refine PW.aload_n rfl rfl dX5_stow_5 ?_
    refine PW.iload_n rfl rfl dX5_stow_6 ?_
    refine PW.cV (ci := 5) (j := 0) _ hS.1 (by decide) rfl kX5_122 (x_isThing hS hX hD _) rfl rfl (Nat.le_of_ble_eq_true rfl) rfl ⟨by decide, by decide⟩ ⟨Nat.zero_le _, Nat.zero_le _⟩ dX5_stow_7 ?_
    refine PW.if_neB 15 (by decide) dX5_stow_10 (fun hc10 => by (first | exact absurd (Or.inl hc10) hg | exact absurd (Or.inr hc10) hg)) (fun hc10 => ?_)
    refine PW.iconst (v := -1) (by decide) dX5_stow_13 ?_
    refine PW.iret rfl (Nat.le_refl _) (Nat.le_refl _) dX5_stow_14 ?_
    exact ⟨rfl, hS, Ag.rf⟩
end XSTW
