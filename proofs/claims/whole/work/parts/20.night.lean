/-! ===== night, keep, back ===== -/
section NGT
variable {b s : Nat} {sc : pw_E} {mem : pw_M} {R : DR} {w : Nat → Nat} {p : Int32} {d : Nat} {e K T : Nat} {h : Hst}
set_option maxHeartbeats 4000000 in
theorem x_night_no (hS : St b s sc mem) (hN : XN mem 13 (R 1 0) w p d) (hd : d = 999) : Rf 3 mX5_night [.ref 9] mem (some (.int (-2))) mem := by
  refine Ret.of (by decide) (Nat.le_of_ble_eq_true rfl) fun l G => ?_
  show PW _ _ _ _ [(0, _)] _ _ _
  refine PW.aload_n rfl rfl dX5_night_0 ?_
  refine PW.gR hS.1 (by decide) rfl fX5_19 dX5_night_1 ?_
  refine PW.gI hS.1 (by decide) rfl (hN.2.2) fX5_150 dX5_night_4 ?_
  refine PW.sipush (v := nI 999) (by decide) dX5_night_7 ?_
  refine PW.icmp_ltN 16 (by decide) (by first | omega | (split <;> omega)) (by first | omega | (split <;> omega)) dX5_night_10 (fun hc10 => by exfalso; omega) (fun hc10 => ?_)
  refine PW.bipush (v := -2) (by decide) dX5_night_13 ?_
  refine PW.iret rfl (Nat.le_refl _) (Nat.le_refl _) dX5_night_15 ?_
  exact ⟨rfl, rfl⟩
set_option maxHeartbeats 4000000 in
theorem m_night_no (hS : St b s sc mem) (hN : MN mem (R 1 0) w p d) (hd : d = 999) : Rf 3 mX6_night [.ref 95] mem (some (.int (-2))) mem := by
  refine Ret.of (by decide) (Nat.le_of_ble_eq_true rfl) fun l G => ?_
  show PW _ _ _ _ [(0, _)] _ _ _
  refine PW.aload_n rfl rfl dX6_night_0 ?_
  refine PW.gR hS.1 (by decide) rfl fX6_32 dX6_night_1 ?_
  refine PW.bipush (v := nI 7) (by decide) dX6_night_4 ?_
  refine PW.aI hS.1 (by decide) rfl (by exact rfl) ⟨by omega, by decide⟩ (hN.2.2) dX6_night_6 ?_
  refine PW.sipush (v := nI 999) (by decide) dX6_night_7 ?_
  refine PW.icmp_neN 16 (by decide) (by first | omega | (split <;> omega)) (by first | omega | (split <;> omega)) dX6_night_10 (fun hc10 => by exfalso; omega) (fun hc10 => ?_)
  refine PW.bipush (v := -2) (by decide) dX6_night_13 ?_
  refine PW.iret rfl (Nat.le_refl _) (Nat.le_refl _) dX6_night_15 ?_
  exact ⟨rfl, rfl⟩
set_option maxHeartbeats 4000000 in
theorem x_night_ok (hS : St b s sc mem) (hX : XD mem b R) (hD : Dat R) (hN : XN mem 13 (R 1 0) w p d) (hH : HX mem (R 1 0) K T h) (hw : ∀ t, t < R 1 0 → w t < R 0 0) (hd : d < 999) : Ret 3 0 0 mX5_night [.ref 9] mem (fun u m1 => u = some (.int (nI (ngC R w (R 1 0)))) ∧ St b s sc m1 ∧ Ag (fun q => q ≠ 15 ∧ q ≠ 13 ∧ q ≠ 14 ∧ (q < 17 ∨ 36 < q)) mem m1 ∧ HX m1 (R 1 0) (hK1 K + 1) (if T + 1 < 10 then T + 1 else 0) (hpush K h (w, p, d)) ∧ XN m1 13 (R 1 0) (ngW R w (R 1 0)) p (d + 1)) := by
  have h6 := hD.1
  have hT := hD.2.1
  have hb := hS.b
  refine Ret.of (by decide) (Nat.le_of_ble_eq_true rfl) fun l G => ?_
  show PW _ _ _ _ [(0, _)] _ _ _
  refine PW.aload_n rfl rfl dX5_night_0 ?_
  refine PW.gR hS.1 (by decide) rfl fX5_19 dX5_night_1 ?_
  refine PW.gI hS.1 (by decide) rfl (hN.2.2) fX5_150 dX5_night_4 ?_
  refine PW.sipush (v := nI 999) (by decide) dX5_night_7 ?_
  refine PW.icmp_ltN 16 (by decide) (by first | omega | (split <;> omega)) (by first | omega | (split <;> omega)) dX5_night_10 (fun hc10 => ?_) (fun hc10 => by exfalso; omega)
  refine PW.aload_n rfl rfl dX5_night_16 ?_
  refine PW.gR hS.1 (by decide) rfl fX5_26 dX5_night_17 ?_
  refine PW.aload_n rfl rfl dX5_night_20 ?_
  refine PW.gR hS.1 (by decide) rfl fX5_19 dX5_night_21 ?_
  refine PW.dV (ci := 1) (j := 0) _ hS.1 (by decide) rfl kX5_169 (x_pushH hS hT hH hN) rfl rfl (Nat.le_of_ble_eq_true rfl) rfl ⟨by decide, by decide⟩ ⟨Nat.zero_le _, Nat.zero_le _⟩ dX5_night_24 (fun v m1 q => ?_)
  obtain ⟨rfl, hS, hA, hH'⟩ := q
  refine PW.iconst (v := nI 0) (by decide) dX5_night_27 ?_
  refine PW.istore_n rfl (by decide) dX5_night_28 (?_ : PW _ _ _ _ [(0, _), (1, _)] _ _ _)
  refine PW.iconst (v := nI 0) (by decide) dX5_night_29 ?_
  refine PW.istore_n rfl (by decide) dX5_night_30 (?_ : PW _ _ _ _ [(0, _), (1, _), (2, _)] _ _ _)
  skip
  have hN' := hN.ag hA ⟨by decide, by decide⟩ ⟨by decide, by decide⟩
  refine PW.loop (I := fun j m => St b s sc m ∧ Ag (fun q => q ≠ 14) m1 m ∧ XN m 13 (R 1 0) (ngW R w j) p d) (fun j _ => [(0, .ref 9), (1, .int (nI (ngC R w j))), (2, .int (nI j))]) (fun _ m => m) (R 1 0) (fun j m hj hI ih => ?_) (fun m hI => ?_) m1 ⟨hS, Ag.rf, hN'⟩
  · obtain ⟨hS, hA2, hN2⟩ := hI
    have hX2 := (hX.ag hA (fun q h1 h2 => ⟨by omega, by omega⟩)).ag hA2 (fun q h1 h2 => by omega)
    have ec : ngC R w (j + 1) = ngC R w j + if fallB R (ngW R w j) j then 1 else 0 := rfl
    refine PW.iload_n rfl rfl dX5_night_31 ?_
    refine PW.aload_n rfl rfl dX5_night_32 ?_
    refine PW.gV hS.1 (by decide) rfl hS.2.1 fX5_58 dX5_night_33 ?_
    refine PW.gI hS.1 (by have := hS.b; omega) (skR1 hS.b) (hX2.2.1) fX5_177 dX5_night_36 ?_
    refine PW.icmp_geN 59 (by decide) (by first | omega | (split <;> omega)) (by first | omega | (split <;> omega)) dX5_night_39 (fun hc39 => by exfalso; omega) (fun hc39 => ?_)
    refine PW.aload_n rfl rfl dX5_night_42 ?_
    refine PW.iload_n rfl rfl dX5_night_43 ?_
    refine PW.dV (ci := 5) (j := 0) _ hS.1 (by decide) rfl kX5_180 (x_fallsThrough hS hX2 hD hN2 (ngW_lt hD hw j (by omega)) hj) rfl rfl (Nat.le_of_ble_eq_true rfl) rfl ⟨by decide, by decide⟩ ⟨Nat.zero_le _, Nat.zero_le _⟩ dX5_night_44 (fun v m1 q => ?_)
    obtain ⟨rfl, hS, hA3, hN3⟩ := q
    refine PW.if_eqB 53 (by decide) dX5_night_47 (fun hc47 => ?_) (fun hc47 => ?_)
    · refine PW.iincN rfl (by decide) dX5_night_53 (?_ : PW _ _ _ _ [(0, _), (1, _), (2, _)] _ _ _)
      refine PW.goto 31 (by decide) dX5_night_56 ?_
      have ih := ih _ ⟨hS, hA2.tr hA3, hN3⟩
      rw [ec, hc47] at ih
      exact ih
    · refine PW.iincN rfl (by decide) dX5_night_50 (?_ : PW _ _ _ _ [(0, _), (1, _), (2, _)] _ _ _)
      refine PW.iincN rfl (by decide) dX5_night_53 (?_ : PW _ _ _ _ [(0, _), (1, _), (2, _)] _ _ _)
      refine PW.goto 31 (by decide) dX5_night_56 ?_
      have ih := ih _ ⟨hS, hA2.tr hA3, hN3⟩
      rw [ec, hc47] at ih
      exact ih
  · obtain ⟨hS, hA2, hN2⟩ := hI
    have hX2 := (hX.ag hA (fun q h1 h2 => ⟨by omega, by omega⟩)).ag hA2 (fun q h1 h2 => by omega)
    refine PW.iload_n rfl rfl dX5_night_31 ?_
    refine PW.aload_n rfl rfl dX5_night_32 ?_
    refine PW.gV hS.1 (by decide) rfl hS.2.1 fX5_58 dX5_night_33 ?_
    refine PW.gI hS.1 (by have := hS.b; omega) (skR1 hS.b) (hX2.2.1) fX5_177 dX5_night_36 ?_
    refine PW.icmp_geN 59 (by decide) (by first | omega | (split <;> omega)) (by first | omega | (split <;> omega)) dX5_night_39 (fun hc39 => ?_) (fun hc39 => by exfalso; omega)
    refine PW.aload_n rfl rfl dX5_night_59 ?_
    refine PW.gR hS.1 (by decide) rfl fX5_19 dX5_night_60 ?_
    refine PW.dup rfl dX5_night_63 ?_
    refine PW.gI hS.1 (by decide) rfl (hN2.2.2) fX5_150 dX5_night_64 ?_
    refine PW.iconst (v := nI 1) (by decide) dX5_night_67 ?_
    refine PW.iaddN dX5_night_68 ?_
    refine PW.tI hS (by decide) rfl pX5_150 dX5_night_69 (fun hS hw69 => ?_)
    refine PW.iload_n rfl rfl dX5_night_72 ?_
    refine PW.iret rfl (Nat.le_refl _) (Nat.le_refl _) dX5_night_73 ?_
    exact ⟨rfl, hS, ((hA.mono (fun q h => ⟨h.1, h.2.2.2⟩)).tr (hA2.mono (fun q h => h.2.2.1))).tr (Ag.wF (fun h => h.2.1 rfl)), (hH'.ag hA2 (by decide) (fun q h1 h2 => by omega)).ag (A := fun q => q ≠ 13) (Ag.wF (fun h => h rfl)) (by decide) (fun q h1 h2 => by omega), fun i hi => by rw [iv_wF]; exact hN2.1 i hi, by rw [fi_wF_ne (Or.inr (by decide))]; exact hN2.2.1, hw69⟩
theorem fall_eq {R : DR} (hD : Dat R) {w : Nat → Nat} {t : Nat} (hwt : w t < R 0 0) : fallB R w t = (decide (behN R (R 14 t) (w t) ≠ w t) && decide (fillN R w (behN R (R 14 t) (w t)) (R 1 0) + R 14 t ≤ R 3 (behN R (R 14 t) (w t)))) ∧ (fallB R w t = true → behN R (R 14 t) (w t) = R 10 (w t)) := by
  have h6 := hD.1
  have hne := (hD.2.2.2.2.1 (w t) (by omega)).2.2.2.2.2.2
  unfold fallB behN
  by_cases c1 : R 10 (w t) ≠ 9 ∧ R 14 t ≤ R 11 (w t) ∧ R 14 t ≤ R 3 (R 10 (w t))
  · rw [if_pos c1, decide_eq_true c1.1, decide_eq_true c1.2.1, decide_eq_true hne]
    exact ⟨rfl, fun _ => rfl⟩
  · rw [if_neg c1, decide_eq_false (show ¬ w t ≠ w t from fun q => q rfl), Bool.false_and]
    have : (decide (R 10 (w t) ≠ 9) && decide (R 14 t ≤ R 11 (w t)) && decide (fillN R w (R 10 (w t)) (R 1 0) + R 14 t ≤ R 3 (R 10 (w t)))) = false := by
      cases hq : (decide (R 10 (w t) ≠ 9) && decide (R 14 t ≤ R 11 (w t)) && decide (fillN R w (R 10 (w t)) (R 1 0) + R 14 t ≤ R 3 (R 10 (w t)))) with
      | false => rfl
      | true =>
        simp only [Bool.and_eq_true, decide_eq_true_eq] at hq
        exact absurd ⟨hq.1.1, hq.1.2, by omega⟩ c1
    rw [this]
    exact ⟨rfl, fun q => by cases q⟩
set_option maxHeartbeats 4000000 in
theorem m_night_ok (hS : St b s sc mem) (hM : MD mem R) (hD : Dat R) (hN : MN mem (R 1 0) w p d) (hK : K ≤ 10) (hH : HM mem (R 1 0) K h) (hw : ∀ t, t < R 1 0 → w t < R 0 0) (hd : d < 999) : Ret 3 0 0 mX6_night [.ref 95] mem (fun u m1 => u = some (.int (nI (ngC R w (R 1 0)))) ∧ St b s sc m1 ∧ Ag (fun q => q ≠ 95 ∧ q ≠ 103 ∧ q ≠ 104) mem m1 ∧ (∀ j, j ≠ 13 → fv m1 95 j = fv mem 95 j) ∧ HM m1 (R 1 0) (hK1 K + 1) (hpush K h (w, p, d)) ∧ MN m1 (R 1 0) (ngW R w (R 1 0)) p (d + 1)) := by
  have h6 := hD.1
  have hT := hD.2.1
  refine Ret.of (by decide) (Nat.le_of_ble_eq_true rfl) fun l G => ?_
  show PW _ _ _ _ [(0, _)] _ _ _
  refine PW.aload_n rfl rfl dX6_night_0 ?_
  refine PW.gR hS.1 (by decide) rfl fX6_32 dX6_night_1 ?_
  refine PW.bipush (v := nI 7) (by decide) dX6_night_4 ?_
  refine PW.aI hS.1 (by decide) rfl (by exact rfl) ⟨by omega, by decide⟩ (hN.2.2) dX6_night_6 ?_
  refine PW.sipush (v := nI 999) (by decide) dX6_night_7 ?_
  refine PW.icmp_neN 16 (by decide) (by first | omega | (split <;> omega)) (by first | omega | (split <;> omega)) dX6_night_10 (fun hc10 => ?_) (fun hc10 => by exfalso; omega)
  refine PW.aload_n rfl rfl dX6_night_16 ?_
  refine PW.dV (ci := 6) (j := 0) _ hS.1 (by decide) rfl kX6_211 (m_noteH hS hT hK hH hN) rfl rfl (Nat.le_of_ble_eq_true rfl) rfl ⟨by decide, by decide⟩ ⟨Nat.zero_le _, Nat.zero_le _⟩ dX6_night_17 (fun v m1 q => ?_)
  obtain ⟨rfl, hS, hA, hf, hH'⟩ := q
  refine PW.iconst (v := nI 0) (by decide) dX6_night_20 ?_
  refine PW.istore_n rfl (by decide) dX6_night_21 (?_ : PW _ _ _ _ [(0, _), (1, _)] _ _ _)
  refine PW.iconst (v := nI 0) (by decide) dX6_night_22 ?_
  refine PW.istore_n rfl (by decide) dX6_night_23 (?_ : PW _ _ _ _ [(0, _), (1, _), (2, _)] _ _ _)
  skip
  have hN' := hN.ag hA ⟨by decide, by decide⟩
  have hM' := hM.ag2 hA (fi_fv (hf 3 (by decide))) (fi_fv (hf 10 (by decide))) (fi_fv (hf 6 (by decide))) (fun q h1 h2 => ⟨by omega, by omega⟩)
  refine PW.loop (I := fun j m => St b s sc m ∧ Ag (fun q => q ≠ 103) m1 m ∧ MN m (R 1 0) (ngW R w j) p d) (fun j _ => [(0, .ref 95), (1, .int (nI (ngC R w j))), (2, .int (nI j))]) (fun _ m => m) (R 1 0) (fun j m hj hI ih => ?_) (fun m hI => ?_) m1 ⟨hS, Ag.rf, hN'⟩
  · obtain ⟨hS, hA2, hN2⟩ := hI
    have hM2 := hM'.ag hA2 (by decide) (fun q h1 h2 => by omega)
    have hw2 := ngW_lt hD hw j (by omega)
    have ec : ngC R w (j + 1) = ngC R w j + if fallB R (ngW R w j) j then 1 else 0 := rfl
    have ew : ngW R w (j + 1) = fallW R (ngW R w j) j := rfl
    have d14 := (hD.2.2.2.2.2.2 j hj).2.2.1
    generalize ngW R w j = v at hN2 ec ew hw2
    have hvj := hw2 j hj
    obtain ⟨fe1, fe2⟩ := fall_eq hD hvj
    have hbl := behN_lt hD (u := R 14 j) hvj
    have hz : behN R (R 14 j) (v j) = v j → fallB R v j = false := fun q => by rw [fe1, decide_eq_false (fun z => z q), Bool.false_and]
    have next : ∀ m', fallB R v j = false → St b s sc m' → Ag (fun q => q ≠ 103) m1 m' → MN m' (R 1 0) v p d → PW (l, G, mX6_night, pw_rm 3 0 0, 0, 0) 0 0 24 [(0, .ref 95), (1, .int (nI (ngC R w j))), (2, .int (nI (j + 1)))] [] m' _ := fun m' hfl a1 a2 a3 => by
      have q := ih m' ⟨a1, a2, by rw [ew]; unfold fallW; rw [hfl]; exact a3⟩
      rw [ec, hfl] at q
      exact q
    have nextT : ∀ m', fallB R v j = true → St b s sc m' → Ag (fun q => q ≠ 103) m1 m' → (∀ i, iv m' 103 i = if i = j then nI (behN R (R 14 j) (v j)) else iv m 103 i) → PW (l, G, mX6_night, pw_rm 3 0 0, 0, 0) 0 0 24 [(0, .ref 95), (1, .int (nI (ngC R w j + 1))), (2, .int (nI (j + 1)))] [] m' _ := fun m' hfl a1 a2 a3 => by
      have q := ih m' ⟨a1, a2, by
        rw [ew]
        unfold fallW
        rw [if_pos hfl]
        refine ⟨fun i hi => ?_, ?_, ?_⟩
        · rw [a3]
          unfold putW
          split
          · rw [fe2 hfl]
          · exact hN2.1 i hi
        · rw [a3, if_neg (by omega)]; exact hN2.2.1
        · rw [a3, if_neg (by omega)]; exact hN2.2.2⟩
      rw [ec, hfl] at q
      exact q
    refine PW.iload_n rfl rfl dX6_night_24 ?_
    refine PW.aload_n rfl rfl dX6_night_25 ?_
    refine PW.gI hS.1 (by decide) rfl (hM2.2.1) fX6_86 dX6_night_26 ?_
    refine PW.icmp_geN 89 (by decide) (by first | omega | (split <;> omega)) (by first | omega | (split <;> omega)) dX6_night_29 (fun hc29 => by exfalso; omega) (fun hc29 => ?_)
    refine PW.aload_n rfl rfl dX6_night_32 ?_
    refine PW.aload_n rfl rfl dX6_night_33 ?_
    refine PW.gR hS.1 (by decide) rfl fX6_32 dX6_night_34 ?_
    refine PW.iload_n rfl rfl dX6_night_37 ?_
    refine PW.aI hS.1 (by decide) rfl (by exact rfl) ⟨by omega, by decide⟩ (hN2.1 _ hj) dX6_night_38 ?_
    refine PW.aload_n rfl rfl dX6_night_39 ?_
    refine PW.gR hS.1 (by decide) rfl fX6_26 dX6_night_40 ?_
    refine PW.iload_n rfl rfl dX6_night_43 ?_
    refine PW.aI hS.1 (by decide) rfl (by exact rfl) ⟨by omega, by decide⟩ ((hM2.2.2.2.2.2 _ hj).2.1) dX6_night_44 ?_
    refine PW.cV (ci := 6) (j := 0) _ hS.1 (by decide) rfl kX6_218 (m_through hS hM2 hD hvj d14) rfl rfl (Nat.le_of_ble_eq_true rfl) rfl ⟨by decide, by decide⟩ ⟨Nat.zero_le _, Nat.zero_le _⟩ dX6_night_45 ?_
    refine PW.istore_n rfl (by decide) dX6_night_48 (?_ : PW _ _ _ _ [(0, _), (1, _), (2, _), (3, _)] _ _ _)
    refine PW.iload_n rfl rfl dX6_night_49 ?_
    refine PW.aload_n rfl rfl dX6_night_50 ?_
    refine PW.gR hS.1 (by decide) rfl fX6_32 dX6_night_51 ?_
    refine PW.iload_n rfl rfl dX6_night_54 ?_
    refine PW.aI hS.1 (by decide) rfl (by exact rfl) ⟨by omega, by decide⟩ (hN2.1 _ hj) dX6_night_55 ?_
    refine PW.icmp_eqN 83 (by decide) (by first | omega | (split <;> omega)) (by first | omega | (split <;> omega)) dX6_night_56 (fun hc56 => ?_) (fun hc56 => ?_)
    · refine PW.iincN rfl (by decide) dX6_night_83 (?_ : PW _ _ _ _ [(0, _), (1, _), (2, _), (3, _)] _ _ _)
      refine PW.goto 24 (by decide) dX6_night_86 ?_
      refine PW.drop _ (fun q h => List.mem_of_mem_take (i := 3) h) ?_
      first | exact next m (by rw [fe1, hc70, Bool.and_false]) hS hA2 hN2 | exact nextT _ (by rw [fe1, hc70, decide_eq_true hc56]; rfl) hS (hA2.tr (Ag.wI (fun h => h rfl))) hw79 | exact next m (hz hc56) hS hA2 hN2
    · refine PW.aload_n rfl rfl dX6_night_59 ?_
      refine PW.iload_n rfl rfl dX6_night_60 ?_
      refine PW.aload_n rfl rfl dX6_night_61 ?_
      refine PW.gR hS.1 (by decide) rfl fX6_26 dX6_night_62 ?_
      refine PW.iload_n rfl rfl dX6_night_65 ?_
      refine PW.aI hS.1 (by decide) rfl (by exact rfl) ⟨by omega, by decide⟩ ((hM2.2.2.2.2.2 _ hj).2.1) dX6_night_66 ?_
      refine PW.cV (ci := 6) (j := 0) _ hS.1 (by decide) rfl kX6_208 (m_hasRoom hS hM2 hD hN2 hw2 hbl d14) rfl rfl (Nat.le_of_ble_eq_true rfl) rfl ⟨by decide, by decide⟩ ⟨Nat.zero_le _, Nat.zero_le _⟩ dX6_night_67 ?_
      refine PW.if_eqB 83 (by decide) dX6_night_70 (fun hc70 => ?_) (fun hc70 => ?_)
      · refine PW.iincN rfl (by decide) dX6_night_83 (?_ : PW _ _ _ _ [(0, _), (1, _), (2, _), (3, _)] _ _ _)
        refine PW.goto 24 (by decide) dX6_night_86 ?_
        refine PW.drop _ (fun q h => List.mem_of_mem_take (i := 3) h) ?_
        first | exact next m (by rw [fe1, hc70, Bool.and_false]) hS hA2 hN2 | exact nextT _ (by rw [fe1, hc70, decide_eq_true hc56]; rfl) hS (hA2.tr (Ag.wI (fun h => h rfl))) hw79 | exact next m (hz hc56) hS hA2 hN2
      · refine PW.aload_n rfl rfl dX6_night_73 ?_
        refine PW.gR hS.1 (by decide) rfl fX6_32 dX6_night_74 ?_
        refine PW.iload_n rfl rfl dX6_night_77 ?_
        refine PW.iload_n rfl rfl dX6_night_78 ?_
        refine PW.uI hS (by decide) rfl (by exact rfl) ⟨by omega, by decide⟩ dX6_night_79 (fun hS hw79 => ?_)
        refine PW.iincN rfl (by decide) dX6_night_80 (?_ : PW _ _ _ _ [(0, _), (1, _), (2, _), (3, _)] _ _ _)
        refine PW.iincN rfl (by decide) dX6_night_83 (?_ : PW _ _ _ _ [(0, _), (1, _), (2, _), (3, _)] _ _ _)
        refine PW.goto 24 (by decide) dX6_night_86 ?_
        refine PW.drop _ (fun q h => List.mem_of_mem_take (i := 3) h) ?_
        first | exact next m (by rw [fe1, hc70, Bool.and_false]) hS hA2 hN2 | exact nextT _ (by rw [fe1, hc70, decide_eq_true hc56]; rfl) hS (hA2.tr (Ag.wI (fun h => h rfl))) hw79 | exact next m (hz hc56) hS hA2 hN2
  · obtain ⟨hS, hA2, hN2⟩ := hI
    have hM2 := hM'.ag hA2 (by decide) (fun q h1 h2 => by omega)
    refine PW.iload_n rfl rfl dX6_night_24 ?_
    refine PW.aload_n rfl rfl dX6_night_25 ?_
    refine PW.gI hS.1 (by decide) rfl (hM2.2.1) fX6_86 dX6_night_26 ?_
    refine PW.icmp_geN 89 (by decide) (by first | omega | (split <;> omega)) (by first | omega | (split <;> omega)) dX6_night_29 (fun hc29 => ?_) (fun hc29 => by exfalso; omega)
    refine PW.aload_n rfl rfl dX6_night_89 ?_
    refine PW.gR hS.1 (by decide) rfl fX6_32 dX6_night_90 ?_
    refine PW.bipush (v := nI 7) (by decide) dX6_night_93 ?_
    refine PW.dup2 rfl rfl dX6_night_95 ?_
    refine PW.aI hS.1 (by decide) rfl (by exact rfl) ⟨by omega, by decide⟩ (hN2.2.2) dX6_night_96 ?_
    refine PW.iconst (v := nI 1) (by decide) dX6_night_97 ?_
    refine PW.iaddN dX6_night_98 ?_
    refine PW.uI hS (by decide) rfl (by exact rfl) ⟨by omega, by decide⟩ dX6_night_99 (fun hS hw99 => ?_)
    refine PW.iload_n rfl rfl dX6_night_100 ?_
    refine PW.iret rfl (Nat.le_refl _) (Nat.le_refl _) dX6_night_101 ?_
    exact ⟨rfl, hS, ((hA.mono (fun q h => ⟨h.1, h.2.2⟩)).tr (hA2.mono (fun q h => h.2.1))).tr (Ag.wI (fun h => h.2.1 rfl)), fun j hj => by rw [fv_wI, hA2.fv (r := 95) (by decide)]; exact hf j hj, (hH'.ag2 (hA2.fi (r := 95) (by decide) 13) (fun q => hA2.iv (r := 104) (by decide) q)).ag2 fi_wI (fun q => iv_wI_ne (by decide)), fun i hi => by rw [hw99, if_neg (by omega)]; exact hN2.1 i hi, by rw [hw99, if_neg (by decide)]; exact hN2.2.1, by rw [hw99, if_pos rfl]⟩
end NGT
