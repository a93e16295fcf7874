/-! ===== fixed, thing, pocket: class and model ===== -/
section LOOK
variable {b s : Nat} {sc : pw_E} {mem : pw_M} {R : DR} {w : Nat → Nat} {p : Int32} {d : Nat} {e n K T L : Nat} {f : Nat → Nat}
set_option maxHeartbeats 4000000 in
theorem x_fixed (hS : St b s sc mem) (hL : XL mem b R) (x : Int32) : Rf 2 mX5_fixed [.ref 9, .int x] mem (some (.int (fixS R x))) mem := by
  by_cases hx : inR x 6 = true
  · obtain ⟨x, hx', rfl⟩ := inR_of hx
    refine Ret.of (by decide) (Nat.le_of_ble_eq_true rfl) fun l G => ?_
    show PW _ _ _ _ [(0, _), (1, _)] _ _ _
    refine PW.iload_n rfl rfl dX5_fixed_0 ?_
    refine PW.iconst (v := nI 0) (by decide) dX5_fixed_1 ?_
    refine PW.iconst (v := nI 5) (by decide) dX5_fixed_2 ?_
    refine PW.cS _ kX5_71 (x_inR (nI x) (h := 5) (by decide) mem) rfl rfl (Nat.le_of_ble_eq_true rfl) ⟨by decide, by decide⟩ ⟨Nat.zero_le _, Nat.zero_le _⟩ dX5_fixed_3 ?_
    refine PW.if_eqB 21 (by decide) dX5_fixed_6 (fun hc6 => by (rw [hx] at hc6; cases hc6)) (fun hc6 => ?_)
    refine PW.aload_n rfl rfl dX5_fixed_9 ?_
    refine PW.gV hS.1 (by decide) rfl hS.2.1 fX5_58 dX5_fixed_10 ?_
    refine PW.gR hS.1 (by have := hS.b; omega) (skR18 hS.b) fX5_147 dX5_fixed_13 ?_
    refine PW.iload_n rfl rfl dX5_fixed_16 ?_
    refine PW.aI hS.1 (by have := hS.b; omega) (akR22 hS.b) (by exact rfl) ⟨by omega, by decide⟩ (hL.2 _ hx') dX5_fixed_17 ?_
    refine PW.goto 22 (by decide) dX5_fixed_18 ?_
    refine PW.iret rfl (Nat.le_refl _) (Nat.le_refl _) dX5_fixed_22 ?_
    exact ⟨by rw [fixS, if_pos hx, cl_nI (by omega)], rfl⟩
  · have hx' := Bool.eq_false_iff.mpr hx
    refine Ret.of (by decide) (Nat.le_of_ble_eq_true rfl) fun l G => ?_
    show PW _ _ _ _ [(0, _), (1, _)] _ _ _
    refine PW.iload_n rfl rfl dX5_fixed_0 ?_
    refine PW.iconst (v := nI 0) (by decide) dX5_fixed_1 ?_
    refine PW.iconst (v := nI 5) (by decide) dX5_fixed_2 ?_
    refine PW.cS _ kX5_71 (x_inR x (h := 5) (by decide) mem) rfl rfl (Nat.le_of_ble_eq_true rfl) ⟨by decide, by decide⟩ ⟨Nat.zero_le _, Nat.zero_le _⟩ dX5_fixed_3 ?_
    refine PW.if_eqB 21 (by decide) dX5_fixed_6 (fun hc6 => ?_) (fun hc6 => by exact absurd hc6 hx)
    refine PW.iconst (v := -1) (by decide) dX5_fixed_21 ?_
    refine PW.iret rfl (Nat.le_refl _) (Nat.le_refl _) dX5_fixed_22 ?_
    exact ⟨by rw [fixS, if_neg hx], rfl⟩
set_option maxHeartbeats 4000000 in
theorem m_fixed (hS : St b s sc mem) (hM : MD mem R) (hD : Dat R) (x : Int32) : Rf 4 mX6_fixed [.ref 95, .int x] mem (some (.int (fixS R x))) mem := by
  by_cases hx : inR x 6 = true
  · obtain ⟨x, hx', rfl⟩ := inR_of hx
    refine Ret.of (by decide) (Nat.le_of_ble_eq_true rfl) fun l G => ?_
    show PW _ _ _ _ [(0, _), (1, _)] _ _ _
    refine PW.iload_n rfl rfl dX6_fixed_0 ?_
    refine PW.cS _ kX6_201 (m_isSort _ mem) rfl rfl (Nat.le_of_ble_eq_true rfl) ⟨by decide, by decide⟩ ⟨Nat.zero_le _, Nat.zero_le _⟩ dX6_fixed_1 ?_
    refine PW.if_eqB 15 (by decide) dX6_fixed_4 (fun hc4 => by (rw [hx] at hc4; cases hc4)) (fun hc4 => ?_)
    refine PW.aload_n rfl rfl dX6_fixed_7 ?_
    refine PW.iload_n rfl rfl dX6_fixed_8 ?_
    refine PW.cV (ci := 6) (j := 0) _ hS.1 (by decide) rfl kX6_175 (m_fixedOf hS hM hD hx') rfl rfl (Nat.le_of_ble_eq_true rfl) rfl ⟨by decide, by decide⟩ ⟨Nat.zero_le _, Nat.zero_le _⟩ dX6_fixed_9 ?_
    refine PW.goto 16 (by decide) dX6_fixed_12 ?_
    refine PW.iret rfl (Nat.le_refl _) (Nat.le_refl _) dX6_fixed_16 ?_
    exact ⟨by rw [fixS, if_pos hx, cl_nI (by omega)], rfl⟩
  · refine Ret.of (by decide) (Nat.le_of_ble_eq_true rfl) fun l G => ?_
    show PW _ _ _ _ [(0, _), (1, _)] _ _ _
    refine PW.iload_n rfl rfl dX6_fixed_0 ?_
    refine PW.cS _ kX6_201 (m_isSort _ mem) rfl rfl (Nat.le_of_ble_eq_true rfl) ⟨by decide, by decide⟩ ⟨Nat.zero_le _, Nat.zero_le _⟩ dX6_fixed_1 ?_
    refine PW.if_eqB 15 (by decide) dX6_fixed_4 (fun hc4 => ?_) (fun hc4 => by exact absurd hc4 hx)
    refine PW.iconst (v := -1) (by decide) dX6_fixed_15 ?_
    refine PW.iret rfl (Nat.le_refl _) (Nat.le_refl _) dX6_fixed_16 ?_
    exact ⟨by rw [fixS, if_neg hx], rfl⟩
set_option maxHeartbeats 4000000 in
theorem x_thing (hS : St b s sc mem) (hX : XD mem b R) (hL : XL mem b R) (hD : Dat R) (hN : XN mem 13 (R 1 0) w p d) (hw : ∀ t, t < R 1 0 → w t < R 0 0) (t x : Int32) : Rf 2 mX5_thing [.ref 9, .int t, .int x] mem (some (.int (thingS R w t x))) mem := by
  have hT := hD.2.1
  by_cases ht : inR t (R 1 0) = true
  · obtain ⟨t, ht', rfl⟩ := inR_of ht
    have hv : ∀ l : List Int32, l.length = 5 → thingS R w (nI t) x = pick [nI (R 13 t), nI (R 14 t), nI (R 15 t), nI (w t), bI (!letN R (w t) (R 13 t))] x := fun _ _ => by rw [thingS, if_pos ht, cl_nI (by omega)]
    rw [hv [0, 0, 0, 0, 0] rfl]
    obtain ⟨f1, f2, f3, -⟩ := hX.2.2.2.2.2.2 t ht'
    by_cases hx : inR x 5 = true
    · obtain ⟨j, hj, rfl⟩ := inR_of hx
      rcases (show j = 0 ∨ j = 1 ∨ j = 2 ∨ j = 3 ∨ j = 4 by omega) with rfl | rfl | rfl | rfl | rfl
      · refine Ret.of (by decide) (Nat.le_of_ble_eq_true rfl) fun l G => ?_
        show PW _ _ _ _ [(0, _), (1, _), (2, _)] _ _ _
        refine PW.aload_n rfl rfl dX5_thing_0 ?_
        refine PW.iload_n rfl rfl dX5_thing_1 ?_
        refine PW.cV (ci := 5) (j := 0) _ hS.1 (by decide) rfl kX5_122 (x_isThing hS hX hD _) rfl rfl (Nat.le_of_ble_eq_true rfl) rfl ⟨by decide, by decide⟩ ⟨Nat.zero_le _, Nat.zero_le _⟩ dX5_thing_2 ?_
        refine PW.if_neB 10 (by decide) dX5_thing_5 (fun hc5 => ?_) (fun hc5 => by (rw [ht] at hc5; cases hc5))
        refine PW.iload_n rfl rfl dX5_thing_10 ?_
        refine PW.tableIn (off := 33) 44 (by decide) (by decide) (by decide) (by decide) dX5_thing_11 ?_
        refine PW.aload_n rfl rfl dX5_thing_44 ?_
        refine PW.gV hS.1 (by decide) rfl hS.2.1 fX5_58 dX5_thing_45 ?_
        refine PW.gR hS.1 (by have := hS.b; omega) (skR13 hS.b) fX5_125 dX5_thing_48 ?_
        refine PW.iload_n rfl rfl dX5_thing_51 ?_
        refine PW.aI hS.1 (by have := hS.b; omega) (akR17 hS.b) (by exact rfl) ⟨by omega, by decide⟩ (by first | exact f1 | exact f2 | exact f3 | exact hN.1 _ ht' | exact rfl) dX5_thing_52 ?_
        refine PW.iret rfl (Nat.le_refl _) (Nat.le_refl _) dX5_thing_53 ?_
        first | exact ⟨rfl, rfl⟩ | exact ⟨by rw [pick_nI (by decide) (by decide), hc89]; rfl, rfl⟩
      · refine Ret.of (by decide) (Nat.le_of_ble_eq_true rfl) fun l G => ?_
        show PW _ _ _ _ [(0, _), (1, _), (2, _)] _ _ _
        refine PW.aload_n rfl rfl dX5_thing_0 ?_
        refine PW.iload_n rfl rfl dX5_thing_1 ?_
        refine PW.cV (ci := 5) (j := 0) _ hS.1 (by decide) rfl kX5_122 (x_isThing hS hX hD _) rfl rfl (Nat.le_of_ble_eq_true rfl) rfl ⟨by decide, by decide⟩ ⟨Nat.zero_le _, Nat.zero_le _⟩ dX5_thing_2 ?_
        refine PW.if_neB 10 (by decide) dX5_thing_5 (fun hc5 => ?_) (fun hc5 => by (rw [ht] at hc5; cases hc5))
        refine PW.iload_n rfl rfl dX5_thing_10 ?_
        refine PW.tableIn (off := 43) 54 (by decide) (by decide) (by decide) (by decide) dX5_thing_11 ?_
        refine PW.aload_n rfl rfl dX5_thing_54 ?_
        refine PW.gV hS.1 (by decide) rfl hS.2.1 fX5_58 dX5_thing_55 ?_
        refine PW.gR hS.1 (by have := hS.b; omega) (skR14 hS.b) fX5_128 dX5_thing_58 ?_
        refine PW.iload_n rfl rfl dX5_thing_61 ?_
        refine PW.aI hS.1 (by have := hS.b; omega) (akR18 hS.b) (by exact rfl) ⟨by omega, by decide⟩ (by first | exact f1 | exact f2 | exact f3 | exact hN.1 _ ht' | exact rfl) dX5_thing_62 ?_
        refine PW.iret rfl (Nat.le_refl _) (Nat.le_refl _) dX5_thing_63 ?_
        first | exact ⟨rfl, rfl⟩ | exact ⟨by rw [pick_nI (by decide) (by decide), hc89]; rfl, rfl⟩
      · refine Ret.of (by decide) (Nat.le_of_ble_eq_true rfl) fun l G => ?_
        show PW _ _ _ _ [(0, _), (1, _), (2, _)] _ _ _
        refine PW.aload_n rfl rfl dX5_thing_0 ?_
        refine PW.iload_n rfl rfl dX5_thing_1 ?_
        refine PW.cV (ci := 5) (j := 0) _ hS.1 (by decide) rfl kX5_122 (x_isThing hS hX hD _) rfl rfl (Nat.le_of_ble_eq_true rfl) rfl ⟨by decide, by decide⟩ ⟨Nat.zero_le _, Nat.zero_le _⟩ dX5_thing_2 ?_
        refine PW.if_neB 10 (by decide) dX5_thing_5 (fun hc5 => ?_) (fun hc5 => by (rw [ht] at hc5; cases hc5))
        refine PW.iload_n rfl rfl dX5_thing_10 ?_
        refine PW.tableIn (off := 53) 64 (by decide) (by decide) (by decide) (by decide) dX5_thing_11 ?_
        refine PW.aload_n rfl rfl dX5_thing_64 ?_
        refine PW.gV hS.1 (by decide) rfl hS.2.1 fX5_58 dX5_thing_65 ?_
        refine PW.gR hS.1 (by have := hS.b; omega) (skR15 hS.b) fX5_131 dX5_thing_68 ?_
        refine PW.iload_n rfl rfl dX5_thing_71 ?_
        refine PW.aI hS.1 (by have := hS.b; omega) (akR19 hS.b) (by exact rfl) ⟨by omega, by decide⟩ (by first | exact f1 | exact f2 | exact f3 | exact hN.1 _ ht' | exact rfl) dX5_thing_72 ?_
        refine PW.iret rfl (Nat.le_refl _) (Nat.le_refl _) dX5_thing_73 ?_
        first | exact ⟨rfl, rfl⟩ | exact ⟨by rw [pick_nI (by decide) (by decide), hc89]; rfl, rfl⟩
      · refine Ret.of (by decide) (Nat.le_of_ble_eq_true rfl) fun l G => ?_
        show PW _ _ _ _ [(0, _), (1, _), (2, _)] _ _ _
        refine PW.aload_n rfl rfl dX5_thing_0 ?_
        refine PW.iload_n rfl rfl dX5_thing_1 ?_
        refine PW.cV (ci := 5) (j := 0) _ hS.1 (by decide) rfl kX5_122 (x_isThing hS hX hD _) rfl rfl (Nat.le_of_ble_eq_true rfl) rfl ⟨by decide, by decide⟩ ⟨Nat.zero_le _, Nat.zero_le _⟩ dX5_thing_2 ?_
        refine PW.if_neB 10 (by decide) dX5_thing_5 (fun hc5 => ?_) (fun hc5 => by (rw [ht] at hc5; cases hc5))
        refine PW.iload_n rfl rfl dX5_thing_10 ?_
        refine PW.tableIn (off := 63) 74 (by decide) (by decide) (by decide) (by decide) dX5_thing_11 ?_
        refine PW.aload_n rfl rfl dX5_thing_74 ?_
        refine PW.gR hS.1 (by decide) rfl fX5_19 dX5_thing_75 ?_
        refine PW.gR hS.1 (by decide) rfl fX5_134 dX5_thing_78 ?_
        refine PW.iload_n rfl rfl dX5_thing_81 ?_
        refine PW.aI hS.1 (by decide) rfl (by exact rfl) ⟨by omega, by decide⟩ (by first | exact f1 | exact f2 | exact f3 | exact hN.1 _ ht' | exact rfl) dX5_thing_82 ?_
        refine PW.iret rfl (Nat.le_refl _) (Nat.le_refl _) dX5_thing_83 ?_
        first | exact ⟨rfl, rfl⟩ | exact ⟨by rw [pick_nI (by decide) (by decide), hc89]; rfl, rfl⟩
      · refine Ret.of (by decide) (Nat.le_of_ble_eq_true rfl) fun l G => ?_
        show PW _ _ _ _ [(0, _), (1, _), (2, _)] _ _ _
        refine PW.aload_n rfl rfl dX5_thing_0 ?_
        refine PW.iload_n rfl rfl dX5_thing_1 ?_
        refine PW.cV (ci := 5) (j := 0) _ hS.1 (by decide) rfl kX5_122 (x_isThing hS hX hD _) rfl rfl (Nat.le_of_ble_eq_true rfl) rfl ⟨by decide, by decide⟩ ⟨Nat.zero_le _, Nat.zero_le _⟩ dX5_thing_2 ?_
        refine PW.if_neB 10 (by decide) dX5_thing_5 (fun hc5 => ?_) (fun hc5 => by (rw [ht] at hc5; cases hc5))
        refine PW.iload_n rfl rfl dX5_thing_10 ?_
        refine PW.tableIn (off := 73) 84 (by decide) (by decide) (by decide) (by decide) dX5_thing_11 ?_
        refine PW.aload_n rfl rfl dX5_thing_84 ?_
        refine PW.iload_n rfl rfl dX5_thing_85 ?_
        refine PW.cV (ci := 5) (j := 0) _ hS.1 (by decide) rfl kX5_137 (x_isOutlawed hS hX hL hD hN hw ht') rfl rfl (Nat.le_of_ble_eq_true rfl) rfl ⟨by decide, by decide⟩ ⟨Nat.zero_le _, Nat.zero_le _⟩ dX5_thing_86 ?_
        refine PW.if_eqB 96 (by decide) dX5_thing_89 (fun hc89 => ?_) (fun hc89 => ?_)
        · refine PW.iconst (v := nI 0) (by decide) dX5_thing_96 ?_
          refine PW.iret rfl (Nat.le_refl _) (Nat.le_refl _) dX5_thing_97 ?_
          refine ⟨?_, rfl⟩
          rw [hc89]
          rfl
        · refine PW.iconst (v := nI 1) (by decide) dX5_thing_92 ?_
          refine PW.goto 97 (by decide) dX5_thing_93 ?_
          refine PW.iret rfl (Nat.le_refl _) (Nat.le_refl _) dX5_thing_97 ?_
          refine ⟨?_, rfl⟩
          rw [hc89]
          rfl
    · have hx' := Bool.eq_false_iff.mpr hx
      have hsw : x.toInt < 0 ∨ 4 < x.toInt := inR_out hx' rfl rfl
      refine Ret.of (by decide) (Nat.le_of_ble_eq_true rfl) fun l G => ?_
      show PW _ _ _ _ [(0, _), (1, _), (2, _)] _ _ _
      refine PW.aload_n rfl rfl dX5_thing_0 ?_
      refine PW.iload_n rfl rfl dX5_thing_1 ?_
      refine PW.cV (ci := 5) (j := 0) _ hS.1 (by decide) rfl kX5_122 (x_isThing hS hX hD _) rfl rfl (Nat.le_of_ble_eq_true rfl) rfl ⟨by decide, by decide⟩ ⟨Nat.zero_le _, Nat.zero_le _⟩ dX5_thing_2 ?_
      refine PW.if_neB 10 (by decide) dX5_thing_5 (fun hc5 => ?_) (fun hc5 => by (rw [ht] at hc5; cases hc5))
      refine PW.iload_n rfl rfl dX5_thing_10 ?_
      refine PW.tableOut 98 hsw (by decide) dX5_thing_11 ?_
      refine PW.iconst (v := -1) (by decide) dX5_thing_98 ?_
      refine PW.iret rfl (Nat.le_refl _) (Nat.le_refl _) dX5_thing_99 ?_
      exact ⟨by rw [pick_no hx'], rfl⟩
  · refine Ret.of (by decide) (Nat.le_of_ble_eq_true rfl) fun l G => ?_
    show PW _ _ _ _ [(0, _), (1, _), (2, _)] _ _ _
    refine PW.aload_n rfl rfl dX5_thing_0 ?_
    refine PW.iload_n rfl rfl dX5_thing_1 ?_
    refine PW.cV (ci := 5) (j := 0) _ hS.1 (by decide) rfl kX5_122 (x_isThing hS hX hD _) rfl rfl (Nat.le_of_ble_eq_true rfl) rfl ⟨by decide, by decide⟩ ⟨Nat.zero_le _, Nat.zero_le _⟩ dX5_thing_2 ?_
    refine PW.if_neB 10 (by decide) dX5_thing_5 (fun hc5 => by exact absurd hc5 ht) (fun hc5 => ?_)
    refine PW.iconst (v := -1) (by decide) dX5_thing_8 ?_
    refine PW.iret rfl (Nat.le_refl _) (Nat.le_refl _) dX5_thing_9 ?_
    exact ⟨by rw [thingS, if_neg ht], rfl⟩
set_option maxHeartbeats 4000000 in
theorem m_thing (hS : St b s sc mem) (hM : MD mem R) (hD : Dat R) (hN : MN mem (R 1 0) w p d) (hw : ∀ t, t < R 1 0 → w t < R 0 0) (t x : Int32) : Rf 6 mX6_thing [.ref 95, .int t, .int x] mem (some (.int (thingS R w t x))) mem := by
  have hT := hD.2.1
  by_cases ht : inR t (R 1 0) = true
  · obtain ⟨t, ht', rfl⟩ := inR_of ht
    have hv : ∀ l : List Int32, l.length = 5 → thingS R w (nI t) x = pick [nI (R 13 t), nI (R 14 t), nI (R 15 t), nI (w t), bI (!letN R (w t) (R 13 t))] x := fun _ _ => by rw [thingS, if_pos ht, cl_nI (by omega)]
    rw [hv [0, 0, 0, 0, 0] rfl]
    obtain ⟨f1, f2, f3⟩ := hM.2.2.2.2.2 t ht'
    by_cases hx : inR x 5 = true
    · obtain ⟨j, hj, rfl⟩ := inR_of hx
      rcases (show j = 0 ∨ j = 1 ∨ j = 2 ∨ j = 3 ∨ j = 4 by omega) with rfl | rfl | rfl | rfl | rfl
      · refine Ret.of (by decide) (Nat.le_of_ble_eq_true rfl) fun l G => ?_
        show PW _ _ _ _ [(0, _), (1, _), (2, _)] _ _ _
        refine PW.aload_n rfl rfl dX6_thing_0 ?_
        refine PW.iload_n rfl rfl dX6_thing_1 ?_
        refine PW.cV (ci := 6) (j := 0) _ hS.1 (by decide) rfl kX6_193 (m_isThing hS hM hD _) rfl rfl (Nat.le_of_ble_eq_true rfl) rfl ⟨by decide, by decide⟩ ⟨Nat.zero_le _, Nat.zero_le _⟩ dX6_thing_2 ?_
        refine PW.if_neB 10 (by decide) dX6_thing_5 (fun hc5 => ?_) (fun hc5 => by (rw [ht] at hc5; cases hc5))
        refine PW.iload_n rfl rfl dX6_thing_10 ?_
        refine PW.tableIn (off := 33) 44 (by decide) (by decide) (by decide) (by decide) dX6_thing_11 ?_
        refine PW.aload_n rfl rfl dX6_thing_44 ?_
        refine PW.gR hS.1 (by decide) rfl fX6_23 dX6_thing_45 ?_
        refine PW.iload_n rfl rfl dX6_thing_48 ?_
        refine PW.aI hS.1 (by decide) rfl (by exact rfl) ⟨by omega, by decide⟩ (by first | exact f1 | exact f2 | exact f3 | exact hN.1 _ ht' | exact rfl) dX6_thing_49 ?_
        refine PW.iret rfl (Nat.le_refl _) (Nat.le_refl _) dX6_thing_50 ?_
        exact ⟨rfl, rfl⟩
      · refine Ret.of (by decide) (Nat.le_of_ble_eq_true rfl) fun l G => ?_
        show PW _ _ _ _ [(0, _), (1, _), (2, _)] _ _ _
        refine PW.aload_n rfl rfl dX6_thing_0 ?_
        refine PW.iload_n rfl rfl dX6_thing_1 ?_
        refine PW.cV (ci := 6) (j := 0) _ hS.1 (by decide) rfl kX6_193 (m_isThing hS hM hD _) rfl rfl (Nat.le_of_ble_eq_true rfl) rfl ⟨by decide, by decide⟩ ⟨Nat.zero_le _, Nat.zero_le _⟩ dX6_thing_2 ?_
        refine PW.if_neB 10 (by decide) dX6_thing_5 (fun hc5 => ?_) (fun hc5 => by (rw [ht] at hc5; cases hc5))
        refine PW.iload_n rfl rfl dX6_thing_10 ?_
        refine PW.tableIn (off := 40) 51 (by decide) (by decide) (by decide) (by decide) dX6_thing_11 ?_
        refine PW.aload_n rfl rfl dX6_thing_51 ?_
        refine PW.gR hS.1 (by decide) rfl fX6_26 dX6_thing_52 ?_
        refine PW.iload_n rfl rfl dX6_thing_55 ?_
        refine PW.aI hS.1 (by decide) rfl (by exact rfl) ⟨by omega, by decide⟩ (by first | exact f1 | exact f2 | exact f3 | exact hN.1 _ ht' | exact rfl) dX6_thing_56 ?_
        refine PW.iret rfl (Nat.le_refl _) (Nat.le_refl _) dX6_thing_57 ?_
        exact ⟨rfl, rfl⟩
      · refine Ret.of (by decide) (Nat.le_of_ble_eq_true rfl) fun l G => ?_
        show PW _ _ _ _ [(0, _), (1, _), (2, _)] _ _ _
        refine PW.aload_n rfl rfl dX6_thing_0 ?_
        refine PW.iload_n rfl rfl dX6_thing_1 ?_
        refine PW.cV (ci := 6) (j := 0) _ hS.1 (by decide) rfl kX6_193 (m_isThing hS hM hD _) rfl rfl (Nat.le_of_ble_eq_true rfl) rfl ⟨by decide, by decide⟩ ⟨Nat.zero_le _, Nat.zero_le _⟩ dX6_thing_2 ?_
        refine PW.if_neB 10 (by decide) dX6_thing_5 (fun hc5 => ?_) (fun hc5 => by (rw [ht] at hc5; cases hc5))
        refine PW.iload_n rfl rfl dX6_thing_10 ?_
        refine PW.tableIn (off := 47) 58 (by decide) (by decide) (by decide) (by decide) dX6_thing_11 ?_
        refine PW.aload_n rfl rfl dX6_thing_58 ?_
        refine PW.gR hS.1 (by decide) rfl fX6_29 dX6_thing_59 ?_
        refine PW.iload_n rfl rfl dX6_thing_62 ?_
        refine PW.aI hS.1 (by decide) rfl (by exact rfl) ⟨by omega, by decide⟩ (by first | exact f1 | exact f2 | exact f3 | exact hN.1 _ ht' | exact rfl) dX6_thing_63 ?_
        refine PW.iret rfl (Nat.le_refl _) (Nat.le_refl _) dX6_thing_64 ?_
        exact ⟨rfl, rfl⟩
      · refine Ret.of (by decide) (Nat.le_of_ble_eq_true rfl) fun l G => ?_
        show PW _ _ _ _ [(0, _), (1, _), (2, _)] _ _ _
        refine PW.aload_n rfl rfl dX6_thing_0 ?_
        refine PW.iload_n rfl rfl dX6_thing_1 ?_
        refine PW.cV (ci := 6) (j := 0) _ hS.1 (by decide) rfl kX6_193 (m_isThing hS hM hD _) rfl rfl (Nat.le_of_ble_eq_true rfl) rfl ⟨by decide, by decide⟩ ⟨Nat.zero_le _, Nat.zero_le _⟩ dX6_thing_2 ?_
        refine PW.if_neB 10 (by decide) dX6_thing_5 (fun hc5 => ?_) (fun hc5 => by (rw [ht] at hc5; cases hc5))
        refine PW.iload_n rfl rfl dX6_thing_10 ?_
        refine PW.tableIn (off := 54) 65 (by decide) (by decide) (by decide) (by decide) dX6_thing_11 ?_
        refine PW.aload_n rfl rfl dX6_thing_65 ?_
        refine PW.gR hS.1 (by decide) rfl fX6_32 dX6_thing_66 ?_
        refine PW.iload_n rfl rfl dX6_thing_69 ?_
        refine PW.aI hS.1 (by decide) rfl (by exact rfl) ⟨by omega, by decide⟩ (by first | exact f1 | exact f2 | exact f3 | exact hN.1 _ ht' | exact rfl) dX6_thing_70 ?_
        refine PW.iret rfl (Nat.le_refl _) (Nat.le_refl _) dX6_thing_71 ?_
        exact ⟨rfl, rfl⟩
      · refine Ret.of (by decide) (Nat.le_of_ble_eq_true rfl) fun l G => ?_
        show PW _ _ _ _ [(0, _), (1, _), (2, _)] _ _ _
        refine PW.aload_n rfl rfl dX6_thing_0 ?_
        refine PW.iload_n rfl rfl dX6_thing_1 ?_
        refine PW.cV (ci := 6) (j := 0) _ hS.1 (by decide) rfl kX6_193 (m_isThing hS hM hD _) rfl rfl (Nat.le_of_ble_eq_true rfl) rfl ⟨by decide, by decide⟩ ⟨Nat.zero_le _, Nat.zero_le _⟩ dX6_thing_2 ?_
        refine PW.if_neB 10 (by decide) dX6_thing_5 (fun hc5 => ?_) (fun hc5 => by (rw [ht] at hc5; cases hc5))
        refine PW.iload_n rfl rfl dX6_thing_10 ?_
        refine PW.tableIn (off := 61) 72 (by decide) (by decide) (by decide) (by decide) dX6_thing_11 ?_
        refine PW.aload_n rfl rfl dX6_thing_72 ?_
        refine PW.iload_n rfl rfl dX6_thing_73 ?_
        refine PW.cV (ci := 6) (j := 0) _ hS.1 (by decide) rfl kX6_196 (m_isOutlawed hS hM hD hN hw ht') rfl rfl (Nat.le_of_ble_eq_true rfl) rfl ⟨by decide, by decide⟩ ⟨Nat.zero_le _, Nat.zero_le _⟩ dX6_thing_74 ?_
        refine PW.if_eqB 84 (by decide) dX6_thing_77 (fun hc77 => ?_) (fun hc77 => ?_)
        · refine PW.iconst (v := nI 0) (by decide) dX6_thing_84 ?_
          refine PW.iret rfl (Nat.le_refl _) (Nat.le_refl _) dX6_thing_85 ?_
          refine ⟨?_, rfl⟩
          rw [hc77]
          rfl
        · refine PW.iconst (v := nI 1) (by decide) dX6_thing_80 ?_
          refine PW.goto 85 (by decide) dX6_thing_81 ?_
          refine PW.iret rfl (Nat.le_refl _) (Nat.le_refl _) dX6_thing_85 ?_
          refine ⟨?_, rfl⟩
          rw [hc77]
          rfl
    · have hx' := Bool.eq_false_iff.mpr hx
      have hsw : x.toInt < 0 ∨ 4 < x.toInt := inR_out hx' rfl rfl
      refine Ret.of (by decide) (Nat.le_of_ble_eq_true rfl) fun l G => ?_
      show PW _ _ _ _ [(0, _), (1, _), (2, _)] _ _ _
      refine PW.aload_n rfl rfl dX6_thing_0 ?_
      refine PW.iload_n rfl rfl dX6_thing_1 ?_
      refine PW.cV (ci := 6) (j := 0) _ hS.1 (by decide) rfl kX6_193 (m_isThing hS hM hD _) rfl rfl (Nat.le_of_ble_eq_true rfl) rfl ⟨by decide, by decide⟩ ⟨Nat.zero_le _, Nat.zero_le _⟩ dX6_thing_2 ?_
      refine PW.if_neB 10 (by decide) dX6_thing_5 (fun hc5 => ?_) (fun hc5 => by (rw [ht] at hc5; cases hc5))
      refine PW.iload_n rfl rfl dX6_thing_10 ?_
      refine PW.tableOut 86 hsw (by decide) dX6_thing_11 ?_
      refine PW.iconst (v := -1) (by decide) dX6_thing_86 ?_
      refine PW.iret rfl (Nat.le_refl _) (Nat.le_refl _) dX6_thing_87 ?_
      exact ⟨by rw [pick_no hx'], rfl⟩
  · refine Ret.of (by decide) (Nat.le_of_ble_eq_true rfl) fun l G => ?_
    show PW _ _ _ _ [(0, _), (1, _), (2, _)] _ _ _
    refine PW.aload_n rfl rfl dX6_thing_0 ?_
    refine PW.iload_n rfl rfl dX6_thing_1 ?_
    refine PW.cV (ci := 6) (j := 0) _ hS.1 (by decide) rfl kX6_193 (m_isThing hS hM hD _) rfl rfl (Nat.le_of_ble_eq_true rfl) rfl ⟨by decide, by decide⟩ ⟨Nat.zero_le _, Nat.zero_le _⟩ dX6_thing_2 ?_
    refine PW.if_neB 10 (by decide) dX6_thing_5 (fun hc5 => by exact absurd hc5 ht) (fun hc5 => ?_)
    refine PW.iconst (v := -1) (by decide) dX6_thing_8 ?_
    refine PW.iret rfl (Nat.le_refl _) (Nat.le_refl _) dX6_thing_9 ?_
    exact ⟨by rw [thingS, if_neg ht], rfl⟩
set_option maxHeartbeats 4000000 in
theorem x_pocket (hS : St b s sc mem) (hX : XD mem b R) (hD : Dat R) (hN : XN mem 13 (R 1 0) w p d) (hw : ∀ t, t < R 1 0 → w t < R 0 0) (k x : Int32) : Rf 2 mX5_pocket [.ref 9, .int k, .int x] mem (some (.int (pockS R w k x))) mem := by
  have h6 := hD.1
  by_cases hk : inR k (R 0 0) = true
  · obtain ⟨k, hk', rfl⟩ := inR_of hk
    have hv : pockS R w (nI k) x = pick [nI (R 3 k), nI (R 4 k), nI (R 5 k), nI (R 6 k), nI (fillN R w k (R 1 0)), nI (depN R 6 (R 6 k)), nI (R 9 k), hI (R 10 k)] x := by rw [pockS, if_pos hk, cl_nI (by omega)]
    rw [hv]
    obtain ⟨f1, f2, f3, f4⟩ := hX.2.2.2.1 k hk'
    obtain ⟨-, -, f5, f6, -⟩ := hX.2.2.2.2.1 k (by omega)
    by_cases hx : inR x 8 = true
    · obtain ⟨j, hj, rfl⟩ := inR_of hx
      rcases (show j = 0 ∨ j = 1 ∨ j = 2 ∨ j = 3 ∨ j = 4 ∨ j = 5 ∨ j = 6 ∨ j = 7 by omega) with rfl | rfl | rfl | rfl | rfl | rfl | rfl | rfl
      · refine Ret.of (by decide) (Nat.le_of_ble_eq_true rfl) fun l G => ?_
        show PW _ _ _ _ [(0, _), (1, _), (2, _)] _ _ _
        refine PW.aload_n rfl rfl dX5_pocket_0 ?_
        refine PW.iload_n rfl rfl dX5_pocket_1 ?_
        refine PW.cV (ci := 5) (j := 0) _ hS.1 (by decide) rfl kX5_93 (x_isPocket hS hX hD _) rfl rfl (Nat.le_of_ble_eq_true rfl) rfl ⟨by decide, by decide⟩ ⟨Nat.zero_le _, Nat.zero_le _⟩ dX5_pocket_2 ?_
        refine PW.if_neB 10 (by decide) dX5_pocket_5 (fun hc5 => ?_) (fun hc5 => by (rw [hk] at hc5; cases hc5))
        refine PW.iload_n rfl rfl dX5_pocket_10 ?_
        refine PW.tableIn (off := 45) 56 (by decide) (by decide) (by decide) (by decide) dX5_pocket_11 ?_
        refine PW.aload_n rfl rfl dX5_pocket_56 ?_
        refine PW.gV hS.1 (by decide) rfl hS.2.1 fX5_58 dX5_pocket_57 ?_
        refine PW.gR hS.1 (by have := hS.b; omega) (skR3 hS.b) fX5_97 dX5_pocket_60 ?_
        refine PW.iload_n rfl rfl dX5_pocket_63 ?_
        refine PW.aI hS.1 (by have := hS.b; omega) (akR1 hS.b) (by exact rfl) ⟨by omega, by decide⟩ (by first | exact f1 | exact f2 | exact f3 | exact f4 | exact f5 | exact f6 | exact rfl) dX5_pocket_64 ?_
        refine PW.iret rfl (Nat.le_refl _) (Nat.le_refl _) dX5_pocket_65 ?_
        exact ⟨rfl, rfl⟩
      · refine Ret.of (by decide) (Nat.le_of_ble_eq_true rfl) fun l G => ?_
        show PW _ _ _ _ [(0, _), (1, _), (2, _)] _ _ _
        refine PW.aload_n rfl rfl dX5_pocket_0 ?_
        refine PW.iload_n rfl rfl dX5_pocket_1 ?_
        refine PW.cV (ci := 5) (j := 0) _ hS.1 (by decide) rfl kX5_93 (x_isPocket hS hX hD _) rfl rfl (Nat.le_of_ble_eq_true rfl) rfl ⟨by decide, by decide⟩ ⟨Nat.zero_le _, Nat.zero_le _⟩ dX5_pocket_2 ?_
        refine PW.if_neB 10 (by decide) dX5_pocket_5 (fun hc5 => ?_) (fun hc5 => by (rw [hk] at hc5; cases hc5))
        refine PW.iload_n rfl rfl dX5_pocket_10 ?_
        refine PW.tableIn (off := 55) 66 (by decide) (by decide) (by decide) (by decide) dX5_pocket_11 ?_
        refine PW.aload_n rfl rfl dX5_pocket_66 ?_
        refine PW.gV hS.1 (by decide) rfl hS.2.1 fX5_58 dX5_pocket_67 ?_
        refine PW.gR hS.1 (by have := hS.b; omega) (skR4 hS.b) fX5_100 dX5_pocket_70 ?_
        refine PW.iload_n rfl rfl dX5_pocket_73 ?_
        refine PW.aI hS.1 (by have := hS.b; omega) (akR2 hS.b) (by exact rfl) ⟨by omega, by decide⟩ (by first | exact f1 | exact f2 | exact f3 | exact f4 | exact f5 | exact f6 | exact rfl) dX5_pocket_74 ?_
        refine PW.iret rfl (Nat.le_refl _) (Nat.le_refl _) dX5_pocket_75 ?_
        exact ⟨rfl, rfl⟩
      · refine Ret.of (by decide) (Nat.le_of_ble_eq_true rfl) fun l G => ?_
        show PW _ _ _ _ [(0, _), (1, _), (2, _)] _ _ _
        refine PW.aload_n rfl rfl dX5_pocket_0 ?_
        refine PW.iload_n rfl rfl dX5_pocket_1 ?_
        refine PW.cV (ci := 5) (j := 0) _ hS.1 (by decide) rfl kX5_93 (x_isPocket hS hX hD _) rfl rfl (Nat.le_of_ble_eq_true rfl) rfl ⟨by decide, by decide⟩ ⟨Nat.zero_le _, Nat.zero_le _⟩ dX5_pocket_2 ?_
        refine PW.if_neB 10 (by decide) dX5_pocket_5 (fun hc5 => ?_) (fun hc5 => by (rw [hk] at hc5; cases hc5))
        refine PW.iload_n rfl rfl dX5_pocket_10 ?_
        refine PW.tableIn (off := 65) 76 (by decide) (by decide) (by decide) (by decide) dX5_pocket_11 ?_
        refine PW.aload_n rfl rfl dX5_pocket_76 ?_
        refine PW.gV hS.1 (by decide) rfl hS.2.1 fX5_58 dX5_pocket_77 ?_
        refine PW.gR hS.1 (by have := hS.b; omega) (skR5 hS.b) fX5_103 dX5_pocket_80 ?_
        refine PW.iload_n rfl rfl dX5_pocket_83 ?_
        refine PW.aI hS.1 (by have := hS.b; omega) (akR3 hS.b) (by exact rfl) ⟨by omega, by decide⟩ (by first | exact f1 | exact f2 | exact f3 | exact f4 | exact f5 | exact f6 | exact rfl) dX5_pocket_84 ?_
        refine PW.iret rfl (Nat.le_refl _) (Nat.le_refl _) dX5_pocket_85 ?_
        exact ⟨rfl, rfl⟩
      · refine Ret.of (by decide) (Nat.le_of_ble_eq_true rfl) fun l G => ?_
        show PW _ _ _ _ [(0, _), (1, _), (2, _)] _ _ _
        refine PW.aload_n rfl rfl dX5_pocket_0 ?_
        refine PW.iload_n rfl rfl dX5_pocket_1 ?_
        refine PW.cV (ci := 5) (j := 0) _ hS.1 (by decide) rfl kX5_93 (x_isPocket hS hX hD _) rfl rfl (Nat.le_of_ble_eq_true rfl) rfl ⟨by decide, by decide⟩ ⟨Nat.zero_le _, Nat.zero_le _⟩ dX5_pocket_2 ?_
        refine PW.if_neB 10 (by decide) dX5_pocket_5 (fun hc5 => ?_) (fun hc5 => by (rw [hk] at hc5; cases hc5))
        refine PW.iload_n rfl rfl dX5_pocket_10 ?_
        refine PW.tableIn (off := 75) 86 (by decide) (by decide) (by decide) (by decide) dX5_pocket_11 ?_
        refine PW.aload_n rfl rfl dX5_pocket_86 ?_
        refine PW.gV hS.1 (by decide) rfl hS.2.1 fX5_58 dX5_pocket_87 ?_
        refine PW.gR hS.1 (by have := hS.b; omega) (skR6 hS.b) fX5_106 dX5_pocket_90 ?_
        refine PW.iload_n rfl rfl dX5_pocket_93 ?_
        refine PW.aI hS.1 (by have := hS.b; omega) (akR4 hS.b) (by exact rfl) ⟨by omega, by decide⟩ (by first | exact f1 | exact f2 | exact f3 | exact f4 | exact f5 | exact f6 | exact rfl) dX5_pocket_94 ?_
        refine PW.iret rfl (Nat.le_refl _) (Nat.le_refl _) dX5_pocket_95 ?_
        exact ⟨rfl, rfl⟩
      · refine Ret.of (by decide) (Nat.le_of_ble_eq_true rfl) fun l G => ?_
        show PW _ _ _ _ [(0, _), (1, _), (2, _)] _ _ _
        refine PW.aload_n rfl rfl dX5_pocket_0 ?_
        refine PW.iload_n rfl rfl dX5_pocket_1 ?_
        refine PW.cV (ci := 5) (j := 0) _ hS.1 (by decide) rfl kX5_93 (x_isPocket hS hX hD _) rfl rfl (Nat.le_of_ble_eq_true rfl) rfl ⟨by decide, by decide⟩ ⟨Nat.zero_le _, Nat.zero_le _⟩ dX5_pocket_2 ?_
        refine PW.if_neB 10 (by decide) dX5_pocket_5 (fun hc5 => ?_) (fun hc5 => by (rw [hk] at hc5; cases hc5))
        refine PW.iload_n rfl rfl dX5_pocket_10 ?_
        refine PW.tableIn (off := 85) 96 (by decide) (by decide) (by decide) (by decide) dX5_pocket_11 ?_
        refine PW.aload_n rfl rfl dX5_pocket_96 ?_
        refine PW.iload_n rfl rfl dX5_pocket_97 ?_
        refine PW.cV (ci := 5) (j := 0) _ hS.1 (by decide) rfl kX5_109 (x_filled hS hX hD hN hw (by omega)) rfl rfl (Nat.le_of_ble_eq_true rfl) rfl ⟨by decide, by decide⟩ ⟨Nat.zero_le _, Nat.zero_le _⟩ dX5_pocket_98 ?_
        refine PW.iret rfl (Nat.le_refl _) (Nat.le_refl _) dX5_pocket_101 ?_
        exact ⟨rfl, rfl⟩
      · refine Ret.of (by decide) (Nat.le_of_ble_eq_true rfl) fun l G => ?_
        show PW _ _ _ _ [(0, _), (1, _), (2, _)] _ _ _
        refine PW.aload_n rfl rfl dX5_pocket_0 ?_
        refine PW.iload_n rfl rfl dX5_pocket_1 ?_
        refine PW.cV (ci := 5) (j := 0) _ hS.1 (by decide) rfl kX5_93 (x_isPocket hS hX hD _) rfl rfl (Nat.le_of_ble_eq_true rfl) rfl ⟨by decide, by decide⟩ ⟨Nat.zero_le _, Nat.zero_le _⟩ dX5_pocket_2 ?_
        refine PW.if_neB 10 (by decide) dX5_pocket_5 (fun hc5 => ?_) (fun hc5 => by (rw [hk] at hc5; cases hc5))
        refine PW.iload_n rfl rfl dX5_pocket_10 ?_
        refine PW.tableIn (off := 91) 102 (by decide) (by decide) (by decide) (by decide) dX5_pocket_11 ?_
        refine PW.aload_n rfl rfl dX5_pocket_102 ?_
        refine PW.gV hS.1 (by decide) rfl hS.2.1 fX5_58 dX5_pocket_103 ?_
        refine PW.iload_n rfl rfl dX5_pocket_106 ?_
        refine PW.cV (ci := 2) (j := 0) _ hS.1 (by have := hS.b; omega) (skR0 hS.b) kX5_113 (x_depth hS hS.b hX hD hk') rfl rfl (Nat.le_of_ble_eq_true rfl) rfl ⟨by decide, by decide⟩ ⟨Nat.zero_le _, Nat.zero_le _⟩ dX5_pocket_107 ?_
        refine PW.iret rfl (Nat.le_refl _) (Nat.le_refl _) dX5_pocket_110 ?_
        exact ⟨rfl, rfl⟩
      · refine Ret.of (by decide) (Nat.le_of_ble_eq_true rfl) fun l G => ?_
        show PW _ _ _ _ [(0, _), (1, _), (2, _)] _ _ _
        refine PW.aload_n rfl rfl dX5_pocket_0 ?_
        refine PW.iload_n rfl rfl dX5_pocket_1 ?_
        refine PW.cV (ci := 5) (j := 0) _ hS.1 (by decide) rfl kX5_93 (x_isPocket hS hX hD _) rfl rfl (Nat.le_of_ble_eq_true rfl) rfl ⟨by decide, by decide⟩ ⟨Nat.zero_le _, Nat.zero_le _⟩ dX5_pocket_2 ?_
        refine PW.if_neB 10 (by decide) dX5_pocket_5 (fun hc5 => ?_) (fun hc5 => by (rw [hk] at hc5; cases hc5))
        refine PW.iload_n rfl rfl dX5_pocket_10 ?_
        refine PW.tableIn (off := 100) 111 (by decide) (by decide) (by decide) (by decide) dX5_pocket_11 ?_
        refine PW.aload_n rfl rfl dX5_pocket_111 ?_
        refine PW.gV hS.1 (by decide) rfl hS.2.1 fX5_58 dX5_pocket_112 ?_
        refine PW.gR hS.1 (by have := hS.b; omega) (skR9 hS.b) fX5_116 dX5_pocket_115 ?_
        refine PW.iload_n rfl rfl dX5_pocket_118 ?_
        refine PW.aI hS.1 (by have := hS.b; omega) (akR7 hS.b) (by exact rfl) ⟨by omega, by decide⟩ (by first | exact f1 | exact f2 | exact f3 | exact f4 | exact f5 | exact f6 | exact rfl) dX5_pocket_119 ?_
        refine PW.iret rfl (Nat.le_refl _) (Nat.le_refl _) dX5_pocket_120 ?_
        exact ⟨rfl, rfl⟩
      · refine Ret.of (by decide) (Nat.le_of_ble_eq_true rfl) fun l G => ?_
        show PW _ _ _ _ [(0, _), (1, _), (2, _)] _ _ _
        refine PW.aload_n rfl rfl dX5_pocket_0 ?_
        refine PW.iload_n rfl rfl dX5_pocket_1 ?_
        refine PW.cV (ci := 5) (j := 0) _ hS.1 (by decide) rfl kX5_93 (x_isPocket hS hX hD _) rfl rfl (Nat.le_of_ble_eq_true rfl) rfl ⟨by decide, by decide⟩ ⟨Nat.zero_le _, Nat.zero_le _⟩ dX5_pocket_2 ?_
        refine PW.if_neB 10 (by decide) dX5_pocket_5 (fun hc5 => ?_) (fun hc5 => by (rw [hk] at hc5; cases hc5))
        refine PW.iload_n rfl rfl dX5_pocket_10 ?_
        refine PW.tableIn (off := 110) 121 (by decide) (by decide) (by decide) (by decide) dX5_pocket_11 ?_
        refine PW.aload_n rfl rfl dX5_pocket_121 ?_
        refine PW.gV hS.1 (by decide) rfl hS.2.1 fX5_58 dX5_pocket_122 ?_
        refine PW.gR hS.1 (by have := hS.b; omega) (skR10 hS.b) fX5_119 dX5_pocket_125 ?_
        refine PW.iload_n rfl rfl dX5_pocket_128 ?_
        refine PW.aI hS.1 (by have := hS.b; omega) (akR8 hS.b) (by exact rfl) ⟨by omega, by decide⟩ (by first | exact f1 | exact f2 | exact f3 | exact f4 | exact f5 | exact f6 | exact rfl) dX5_pocket_129 ?_
        refine PW.iret rfl (Nat.le_refl _) (Nat.le_refl _) dX5_pocket_130 ?_
        exact ⟨rfl, rfl⟩
    · have hx' := Bool.eq_false_iff.mpr hx
      have hsw : x.toInt < 0 ∨ 7 < x.toInt := inR_out hx' rfl rfl
      refine Ret.of (by decide) (Nat.le_of_ble_eq_true rfl) fun l G => ?_
      show PW _ _ _ _ [(0, _), (1, _), (2, _)] _ _ _
      refine PW.aload_n rfl rfl dX5_pocket_0 ?_
      refine PW.iload_n rfl rfl dX5_pocket_1 ?_
      refine PW.cV (ci := 5) (j := 0) _ hS.1 (by decide) rfl kX5_93 (x_isPocket hS hX hD _) rfl rfl (Nat.le_of_ble_eq_true rfl) rfl ⟨by decide, by decide⟩ ⟨Nat.zero_le _, Nat.zero_le _⟩ dX5_pocket_2 ?_
      refine PW.if_neB 10 (by decide) dX5_pocket_5 (fun hc5 => ?_) (fun hc5 => by (rw [hk] at hc5; cases hc5))
      refine PW.iload_n rfl rfl dX5_pocket_10 ?_
      refine PW.tableOut 131 hsw (by decide) dX5_pocket_11 ?_
      refine PW.iconst (v := -1) (by decide) dX5_pocket_131 ?_
      refine PW.iret rfl (Nat.le_refl _) (Nat.le_refl _) dX5_pocket_132 ?_
      exact ⟨by rw [pick_no hx'], rfl⟩
  · refine Ret.of (by decide) (Nat.le_of_ble_eq_true rfl) fun l G => ?_
    show PW _ _ _ _ [(0, _), (1, _), (2, _)] _ _ _
    refine PW.aload_n rfl rfl dX5_pocket_0 ?_
    refine PW.iload_n rfl rfl dX5_pocket_1 ?_
    refine PW.cV (ci := 5) (j := 0) _ hS.1 (by decide) rfl kX5_93 (x_isPocket hS hX hD _) rfl rfl (Nat.le_of_ble_eq_true rfl) rfl ⟨by decide, by decide⟩ ⟨Nat.zero_le _, Nat.zero_le _⟩ dX5_pocket_2 ?_
    refine PW.if_neB 10 (by decide) dX5_pocket_5 (fun hc5 => by exact absurd hc5 hk) (fun hc5 => ?_)
    refine PW.iconst (v := -1) (by decide) dX5_pocket_8 ?_
    refine PW.iret rfl (Nat.le_refl _) (Nat.le_refl _) dX5_pocket_9 ?_
    exact ⟨by rw [pockS, if_neg hk], rfl⟩
set_option maxHeartbeats 4000000 in
theorem m_seamsOf (hS : St b s sc mem) (hM : MD mem R) (hD : Dat R) {k : Nat} (hk : k < R 0 0) : Rf 0 mX6_seamsOf [.ref 95, .int (nI k)] mem (some (.int (nI (R 9 k)))) mem := by
  have h6 := hD.1
  have hself := bitN_self (hD.2.2.2.2.1 k (by omega)).2.2.1
  refine Ret.of (by decide) (Nat.le_of_ble_eq_true rfl) fun l G => ?_
  show PW _ _ _ _ [(0, _), (1, _)] _ _ _
  refine PW.iconst (v := nI 0) (by decide) dX6_seamsOf_0 ?_
  refine PW.istore_n rfl (by decide) dX6_seamsOf_1 (?_ : PW _ _ _ _ [(0, _), (1, _), (2, _)] _ _ _)
  refine PW.iconst (v := nI 0) (by decide) dX6_seamsOf_2 ?_
  refine PW.istore_n rfl (by decide) dX6_seamsOf_3 (?_ : PW _ _ _ _ [(0, _), (1, _), (2, _), (3, _)] _ _ _)
  skip
  refine PW.up (fun j => [(0, .ref 95), (1, .int (nI k)), (2, .int (nI (bitN (R 9 k).testBit j))), (3, .int (nI j))]) (fun _ => mem) (R 0 0) (fun j hj ih => ?_) ?_
  · have ew : bitN (R 9 k).testBit (j + 1) = if (R 9 k).testBit j then bitN (R 9 k).testBit j ||| 2 ^ j else bitN (R 9 k).testBit j := rfl
    have hl := bitN_lt (R 9 k).testBit j
    have hp := pow6 (show j ≤ 6 by omega)
    refine PW.iload_n rfl rfl dX6_seamsOf_4 ?_
    refine PW.aload_n rfl rfl dX6_seamsOf_5 ?_
    refine PW.gI hS.1 (by decide) rfl (hM.1) fX6_78 dX6_seamsOf_6 ?_
    refine PW.icmp_geN 42 (by decide) (by first | omega | (split <;> omega)) (by first | omega | (split <;> omega)) dX6_seamsOf_9 (fun hc9 => by exfalso; omega) (fun hc9 => ?_)
    refine PW.iload_n rfl rfl dX6_seamsOf_12 ?_
    refine PW.aload_n rfl rfl dX6_seamsOf_13 ?_
    refine PW.gR hS.1 (by decide) rfl fX6_16 dX6_seamsOf_14 ?_
    refine PW.bipush (v := nI 6) (by decide) dX6_seamsOf_17 ?_
    refine PW.iload_n rfl rfl dX6_seamsOf_19 ?_
    refine PW.imulN dX6_seamsOf_20 ?_
    refine PW.iload_n rfl rfl dX6_seamsOf_21 ?_
    refine PW.iaddN dX6_seamsOf_22 ?_
    refine PW.aZ hS.1 (by decide) rfl (by exact rfl) ⟨by omega, by decide⟩ ((hM.2.2.2.2.1 k j (by omega) (by omega)).1) dX6_seamsOf_23 ?_
    refine PW.if_eqB 33 (by decide) dX6_seamsOf_24 (fun hc24 => ?_) (fun hc24 => ?_)
    · refine PW.iconst (v := nI 0) (by decide) dX6_seamsOf_33 ?_
      refine PW.iorZ dX6_seamsOf_34 ?_
      refine PW.istore_n rfl (by decide) dX6_seamsOf_35 (?_ : PW _ _ _ _ [(0, _), (1, _), (2, _), (3, _)] _ _ _)
      refine PW.iincN rfl (by decide) dX6_seamsOf_36 (?_ : PW _ _ _ _ [(0, _), (1, _), (2, _), (3, _)] _ _ _)
      refine PW.goto 4 (by decide) dX6_seamsOf_39 ?_
      rw [ew, hc24] at ih
      exact ih
    · refine PW.iconst (v := nI 1) (by decide) dX6_seamsOf_27 ?_
      refine PW.iload_n rfl rfl dX6_seamsOf_28 ?_
      refine PW.ishl1 (by omega) dX6_seamsOf_29 ?_
      refine PW.goto 34 (by decide) dX6_seamsOf_30 ?_
      refine PW.iorN dX6_seamsOf_34 ?_
      refine PW.istore_n rfl (by decide) dX6_seamsOf_35 (?_ : PW _ _ _ _ [(0, _), (1, _), (2, _), (3, _)] _ _ _)
      refine PW.iincN rfl (by decide) dX6_seamsOf_36 (?_ : PW _ _ _ _ [(0, _), (1, _), (2, _), (3, _)] _ _ _)
      refine PW.goto 4 (by decide) dX6_seamsOf_39 ?_
      rw [ew, hc24] at ih
      exact ih
  · rw [hself]
    refine PW.iload_n rfl rfl dX6_seamsOf_4 ?_
    refine PW.aload_n rfl rfl dX6_seamsOf_5 ?_
    refine PW.gI hS.1 (by decide) rfl (hM.1) fX6_78 dX6_seamsOf_6 ?_
    refine PW.icmp_geN 42 (by decide) (by first | omega | (split <;> omega)) (by first | omega | (split <;> omega)) dX6_seamsOf_9 (fun hc9 => ?_) (fun hc9 => by exfalso; omega)
    refine PW.iload_n rfl rfl dX6_seamsOf_42 ?_
    refine PW.iret rfl (Nat.le_refl _) (Nat.le_refl _) dX6_seamsOf_43 ?_
    exact ⟨rfl, rfl⟩
set_option maxHeartbeats 4000000 in
theorem m_pocket (hS : St b s sc mem) (hM : MD mem R) (hD : Dat R) (hN : MN mem (R 1 0) w p d) (hw : ∀ t, t < R 1 0 → w t < R 0 0) (k x : Int32) : Rf 2 mX6_pocket [.ref 95, .int k, .int x] mem (some (.int (pockS R w k x))) mem := by
  have h6 := hD.1
  by_cases hk : inR k (R 0 0) = true
  · obtain ⟨k, hk', rfl⟩ := inR_of hk
    have hv : pockS R w (nI k) x = pick [nI (R 3 k), nI (R 4 k), nI (R 5 k), nI (R 6 k), nI (fillN R w k (R 1 0)), nI (depN R 6 (R 6 k)), nI (R 9 k), hI (R 10 k)] x := by rw [pockS, if_pos hk, cl_nI (by omega)]
    rw [hv]
    obtain ⟨f1, f2, f3, f4, -, -, f6, -⟩ := hM.2.2.2.1 k hk'
    by_cases hx : inR x 8 = true
    · obtain ⟨j, hj, rfl⟩ := inR_of hx
      rcases (show j = 0 ∨ j = 1 ∨ j = 2 ∨ j = 3 ∨ j = 4 ∨ j = 5 ∨ j = 6 ∨ j = 7 by omega) with rfl | rfl | rfl | rfl | rfl | rfl | rfl | rfl
      · refine Ret.of (by decide) (Nat.le_of_ble_eq_true rfl) fun l G => ?_
        show PW _ _ _ _ [(0, _), (1, _), (2, _)] _ _ _
        refine PW.aload_n rfl rfl dX6_pocket_0 ?_
        refine PW.iload_n rfl rfl dX6_pocket_1 ?_
        refine PW.cV (ci := 6) (j := 0) _ hS.1 (by decide) rfl kX6_178 (m_isPocket hS hM hD _) rfl rfl (Nat.le_of_ble_eq_true rfl) rfl ⟨by decide, by decide⟩ ⟨Nat.zero_le _, Nat.zero_le _⟩ dX6_pocket_2 ?_
        refine PW.if_neB 10 (by decide) dX6_pocket_5 (fun hc5 => ?_) (fun hc5 => by (rw [hk] at hc5; cases hc5))
        refine PW.iload_n rfl rfl dX6_pocket_10 ?_
        refine PW.tableIn (off := 45) 56 (by decide) (by decide) (by decide) (by decide) dX6_pocket_11 ?_
        refine PW.aload_n rfl rfl dX6_pocket_56 ?_
        refine PW.gR hS.1 (by decide) rfl fX6_13 dX6_pocket_57 ?_
        refine PW.bipush (v := nI 8) (by decide) dX6_pocket_60 ?_
        refine PW.iload_n rfl rfl dX6_pocket_62 ?_
        refine PW.imulN dX6_pocket_63 ?_
        refine PW.iload_n rfl rfl dX6_pocket_64 ?_
        refine PW.iaddN dX6_pocket_65 ?_
        refine PW.aI hS.1 (by decide) rfl (by exact rfl) ⟨by omega, by decide⟩ (by first | exact f1 | exact f2 | exact f3 | exact f4 | exact f6 | exact rfl) dX6_pocket_66 ?_
        refine PW.iret rfl (Nat.le_refl _) (Nat.le_refl _) dX6_pocket_67 ?_
        exact ⟨rfl, rfl⟩
      · refine Ret.of (by decide) (Nat.le_of_ble_eq_true rfl) fun l G => ?_
        show PW _ _ _ _ [(0, _), (1, _), (2, _)] _ _ _
        refine PW.aload_n rfl rfl dX6_pocket_0 ?_
        refine PW.iload_n rfl rfl dX6_pocket_1 ?_
        refine PW.cV (ci := 6) (j := 0) _ hS.1 (by decide) rfl kX6_178 (m_isPocket hS hM hD _) rfl rfl (Nat.le_of_ble_eq_true rfl) rfl ⟨by decide, by decide⟩ ⟨Nat.zero_le _, Nat.zero_le _⟩ dX6_pocket_2 ?_
        refine PW.if_neB 10 (by decide) dX6_pocket_5 (fun hc5 => ?_) (fun hc5 => by (rw [hk] at hc5; cases hc5))
        refine PW.iload_n rfl rfl dX6_pocket_10 ?_
        refine PW.tableIn (off := 45) 56 (by decide) (by decide) (by decide) (by decide) dX6_pocket_11 ?_
        refine PW.aload_n rfl rfl dX6_pocket_56 ?_
        refine PW.gR hS.1 (by decide) rfl fX6_13 dX6_pocket_57 ?_
        refine PW.bipush (v := nI 8) (by decide) dX6_pocket_60 ?_
        refine PW.iload_n rfl rfl dX6_pocket_62 ?_
        refine PW.imulN dX6_pocket_63 ?_
        refine PW.iload_n rfl rfl dX6_pocket_64 ?_
        refine PW.iaddN dX6_pocket_65 ?_
        refine PW.aI hS.1 (by decide) rfl (by exact rfl) ⟨by omega, by decide⟩ (by first | exact f1 | exact f2 | exact f3 | exact f4 | exact f6 | exact rfl) dX6_pocket_66 ?_
        refine PW.iret rfl (Nat.le_refl _) (Nat.le_refl _) dX6_pocket_67 ?_
        exact ⟨rfl, rfl⟩
      · refine Ret.of (by decide) (Nat.le_of_ble_eq_true rfl) fun l G => ?_
        show PW _ _ _ _ [(0, _), (1, _), (2, _)] _ _ _
        refine PW.aload_n rfl rfl dX6_pocket_0 ?_
        refine PW.iload_n rfl rfl dX6_pocket_1 ?_
        refine PW.cV (ci := 6) (j := 0) _ hS.1 (by decide) rfl kX6_178 (m_isPocket hS hM hD _) rfl rfl (Nat.le_of_ble_eq_true rfl) rfl ⟨by decide, by decide⟩ ⟨Nat.zero_le _, Nat.zero_le _⟩ dX6_pocket_2 ?_
        refine PW.if_neB 10 (by decide) dX6_pocket_5 (fun hc5 => ?_) (fun hc5 => by (rw [hk] at hc5; cases hc5))
        refine PW.iload_n rfl rfl dX6_pocket_10 ?_
        refine PW.tableIn (off := 45) 56 (by decide) (by decide) (by decide) (by decide) dX6_pocket_11 ?_
        refine PW.aload_n rfl rfl dX6_pocket_56 ?_
        refine PW.gR hS.1 (by decide) rfl fX6_13 dX6_pocket_57 ?_
        refine PW.bipush (v := nI 8) (by decide) dX6_pocket_60 ?_
        refine PW.iload_n rfl rfl dX6_pocket_62 ?_
        refine PW.imulN dX6_pocket_63 ?_
        refine PW.iload_n rfl rfl dX6_pocket_64 ?_
        refine PW.iaddN dX6_pocket_65 ?_
        refine PW.aI hS.1 (by decide) rfl (by exact rfl) ⟨by omega, by decide⟩ (by first | exact f1 | exact f2 | exact f3 | exact f4 | exact f6 | exact rfl) dX6_pocket_66 ?_
        refine PW.iret rfl (Nat.le_refl _) (Nat.le_refl _) dX6_pocket_67 ?_
        exact ⟨rfl, rfl⟩
      · refine Ret.of (by decide) (Nat.le_of_ble_eq_true rfl) fun l G => ?_
        show PW _ _ _ _ [(0, _), (1, _), (2, _)] _ _ _
        refine PW.aload_n rfl rfl dX6_pocket_0 ?_
        refine PW.iload_n rfl rfl dX6_pocket_1 ?_
        refine PW.cV (ci := 6) (j := 0) _ hS.1 (by decide) rfl kX6_178 (m_isPocket hS hM hD _) rfl rfl (Nat.le_of_ble_eq_true rfl) rfl ⟨by decide, by decide⟩ ⟨Nat.zero_le _, Nat.zero_le _⟩ dX6_pocket_2 ?_
        refine PW.if_neB 10 (by decide) dX6_pocket_5 (fun hc5 => ?_) (fun hc5 => by (rw [hk] at hc5; cases hc5))
        refine PW.iload_n rfl rfl dX6_pocket_10 ?_
        refine PW.tableIn (off := 45) 56 (by decide) (by decide) (by decide) (by decide) dX6_pocket_11 ?_
        refine PW.aload_n rfl rfl dX6_pocket_56 ?_
        refine PW.gR hS.1 (by decide) rfl fX6_13 dX6_pocket_57 ?_
        refine PW.bipush (v := nI 8) (by decide) dX6_pocket_60 ?_
        refine PW.iload_n rfl rfl dX6_pocket_62 ?_
        refine PW.imulN dX6_pocket_63 ?_
        refine PW.iload_n rfl rfl dX6_pocket_64 ?_
        refine PW.iaddN dX6_pocket_65 ?_
        refine PW.aI hS.1 (by decide) rfl (by exact rfl) ⟨by omega, by decide⟩ (by first | exact f1 | exact f2 | exact f3 | exact f4 | exact f6 | exact rfl) dX6_pocket_66 ?_
        refine PW.iret rfl (Nat.le_refl _) (Nat.le_refl _) dX6_pocket_67 ?_
        exact ⟨rfl, rfl⟩
      · refine Ret.of (by decide) (Nat.le_of_ble_eq_true rfl) fun l G => ?_
        show PW _ _ _ _ [(0, _), (1, _), (2, _)] _ _ _
        refine PW.aload_n rfl rfl dX6_pocket_0 ?_
        refine PW.iload_n rfl rfl dX6_pocket_1 ?_
        refine PW.cV (ci := 6) (j := 0) _ hS.1 (by decide) rfl kX6_178 (m_isPocket hS hM hD _) rfl rfl (Nat.le_of_ble_eq_true rfl) rfl ⟨by decide, by decide⟩ ⟨Nat.zero_le _, Nat.zero_le _⟩ dX6_pocket_2 ?_
        refine PW.if_neB 10 (by decide) dX6_pocket_5 (fun hc5 => ?_) (fun hc5 => by (rw [hk] at hc5; cases hc5))
        refine PW.iload_n rfl rfl dX6_pocket_10 ?_
        refine PW.tableIn (off := 57) 68 (by decide) (by decide) (by decide) (by decide) dX6_pocket_11 ?_
        refine PW.aload_n rfl rfl dX6_pocket_68 ?_
        refine PW.iload_n rfl rfl dX6_pocket_69 ?_
        refine PW.cV (ci := 6) (j := 0) _ hS.1 (by decide) rfl kX6_181 (m_filled hS hM hD hN hw (by omega)) rfl rfl (Nat.le_of_ble_eq_true rfl) rfl ⟨by decide, by decide⟩ ⟨Nat.zero_le _, Nat.zero_le _⟩ dX6_pocket_70 ?_
        refine PW.iret rfl (Nat.le_refl _) (Nat.le_refl _) dX6_pocket_73 ?_
        exact ⟨rfl, rfl⟩
      · refine Ret.of (by decide) (Nat.le_of_ble_eq_true rfl) fun l G => ?_
        show PW _ _ _ _ [(0, _), (1, _), (2, _)] _ _ _
        refine PW.aload_n rfl rfl dX6_pocket_0 ?_
        refine PW.iload_n rfl rfl dX6_pocket_1 ?_
        refine PW.cV (ci := 6) (j := 0) _ hS.1 (by decide) rfl kX6_178 (m_isPocket hS hM hD _) rfl rfl (Nat.le_of_ble_eq_true rfl) rfl ⟨by decide, by decide⟩ ⟨Nat.zero_le _, Nat.zero_le _⟩ dX6_pocket_2 ?_
        refine PW.if_neB 10 (by decide) dX6_pocket_5 (fun hc5 => ?_) (fun hc5 => by (rw [hk] at hc5; cases hc5))
        refine PW.iload_n rfl rfl dX6_pocket_10 ?_
        refine PW.tableIn (off := 63) 74 (by decide) (by decide) (by decide) (by decide) dX6_pocket_11 ?_
        refine PW.aload_n rfl rfl dX6_pocket_74 ?_
        refine PW.iload_n rfl rfl dX6_pocket_75 ?_
        refine PW.cV (ci := 6) (j := 0) _ hS.1 (by decide) rfl kX6_184 (m_depthOf hS hM hD hk') rfl rfl (Nat.le_of_ble_eq_true rfl) rfl ⟨by decide, by decide⟩ ⟨Nat.zero_le _, Nat.zero_le _⟩ dX6_pocket_76 ?_
        refine PW.iret rfl (Nat.le_refl _) (Nat.le_refl _) dX6_pocket_79 ?_
        exact ⟨rfl, rfl⟩
      · refine Ret.of (by decide) (Nat.le_of_ble_eq_true rfl) fun l G => ?_
        show PW _ _ _ _ [(0, _), (1, _), (2, _)] _ _ _
        refine PW.aload_n rfl rfl dX6_pocket_0 ?_
        refine PW.iload_n rfl rfl dX6_pocket_1 ?_
        refine PW.cV (ci := 6) (j := 0) _ hS.1 (by decide) rfl kX6_178 (m_isPocket hS hM hD _) rfl rfl (Nat.le_of_ble_eq_true rfl) rfl ⟨by decide, by decide⟩ ⟨Nat.zero_le _, Nat.zero_le _⟩ dX6_pocket_2 ?_
        refine PW.if_neB 10 (by decide) dX6_pocket_5 (fun hc5 => ?_) (fun hc5 => by (rw [hk] at hc5; cases hc5))
        refine PW.iload_n rfl rfl dX6_pocket_10 ?_
        refine PW.tableIn (off := 69) 80 (by decide) (by decide) (by decide) (by decide) dX6_pocket_11 ?_
        refine PW.aload_n rfl rfl dX6_pocket_80 ?_
        refine PW.iload_n rfl rfl dX6_pocket_81 ?_
        refine PW.cV (ci := 6) (j := 0) _ hS.1 (by decide) rfl kX6_187 (m_seamsOf hS hM hD hk') rfl rfl (Nat.le_of_ble_eq_true rfl) rfl ⟨by decide, by decide⟩ ⟨Nat.zero_le _, Nat.zero_le _⟩ dX6_pocket_82 ?_
        refine PW.iret rfl (Nat.le_refl _) (Nat.le_refl _) dX6_pocket_85 ?_
        exact ⟨rfl, rfl⟩
      · refine Ret.of (by decide) (Nat.le_of_ble_eq_true rfl) fun l G => ?_
        show PW _ _ _ _ [(0, _), (1, _), (2, _)] _ _ _
        refine PW.aload_n rfl rfl dX6_pocket_0 ?_
        refine PW.iload_n rfl rfl dX6_pocket_1 ?_
        refine PW.cV (ci := 6) (j := 0) _ hS.1 (by decide) rfl kX6_178 (m_isPocket hS hM hD _) rfl rfl (Nat.le_of_ble_eq_true rfl) rfl ⟨by decide, by decide⟩ ⟨Nat.zero_le _, Nat.zero_le _⟩ dX6_pocket_2 ?_
        refine PW.if_neB 10 (by decide) dX6_pocket_5 (fun hc5 => ?_) (fun hc5 => by (rw [hk] at hc5; cases hc5))
        refine PW.iload_n rfl rfl dX6_pocket_10 ?_
        refine PW.tableIn (off := 75) 86 (by decide) (by decide) (by decide) (by decide) dX6_pocket_11 ?_
        refine PW.aload_n rfl rfl dX6_pocket_86 ?_
        refine PW.gR hS.1 (by decide) rfl fX6_13 dX6_pocket_87 ?_
        refine PW.bipush (v := nI 8) (by decide) dX6_pocket_90 ?_
        refine PW.iload_n rfl rfl dX6_pocket_92 ?_
        refine PW.imulN dX6_pocket_93 ?_
        refine PW.bipush (v := nI 6) (by decide) dX6_pocket_94 ?_
        refine PW.iaddN dX6_pocket_96 ?_
        refine PW.aI hS.1 (by decide) rfl (by exact rfl) ⟨by omega, by decide⟩ (by first | exact f1 | exact f2 | exact f3 | exact f4 | exact f6 | exact rfl) dX6_pocket_97 ?_
        refine PW.iret rfl (Nat.le_refl _) (Nat.le_refl _) dX6_pocket_98 ?_
        exact ⟨rfl, rfl⟩
    · have hx' := Bool.eq_false_iff.mpr hx
      have hsw : x.toInt < 0 ∨ 7 < x.toInt := inR_out hx' rfl rfl
      refine Ret.of (by decide) (Nat.le_of_ble_eq_true rfl) fun l G => ?_
      show PW _ _ _ _ [(0, _), (1, _), (2, _)] _ _ _
      refine PW.aload_n rfl rfl dX6_pocket_0 ?_
      refine PW.iload_n rfl rfl dX6_pocket_1 ?_
      refine PW.cV (ci := 6) (j := 0) _ hS.1 (by decide) rfl kX6_178 (m_isPocket hS hM hD _) rfl rfl (Nat.le_of_ble_eq_true rfl) rfl ⟨by decide, by decide⟩ ⟨Nat.zero_le _, Nat.zero_le _⟩ dX6_pocket_2 ?_
      refine PW.if_neB 10 (by decide) dX6_pocket_5 (fun hc5 => ?_) (fun hc5 => by (rw [hk] at hc5; cases hc5))
      refine PW.iload_n rfl rfl dX6_pocket_10 ?_
      refine PW.tableOut 99 hsw (by decide) dX6_pocket_11 ?_
      refine PW.iconst (v := -1) (by decide) dX6_pocket_99 ?_
      refine PW.iret rfl (Nat.le_refl _) (Nat.le_refl _) dX6_pocket_100 ?_
      exact ⟨by rw [pick_no hx'], rfl⟩
  · refine Ret.of (by decide) (Nat.le_of_ble_eq_true rfl) fun l G => ?_
    show PW _ _ _ _ [(0, _), (1, _), (2, _)] _ _ _
    refine PW.aload_n rfl rfl dX6_pocket_0 ?_
    refine PW.iload_n rfl rfl dX6_pocket_1 ?_
    refine PW.cV (ci := 6) (j := 0) _ hS.1 (by decide) rfl kX6_178 (m_isPocket hS hM hD _) rfl rfl (Nat.le_of_ble_eq_true rfl) rfl ⟨by decide, by decide⟩ ⟨Nat.zero_le _, Nat.zero_le _⟩ dX6_pocket_2 ?_
    refine PW.if_neB 10 (by decide) dX6_pocket_5 (fun hc5 => by exact absurd hc5 hk) (fun hc5 => ?_)
    refine PW.iconst (v := -1) (by decide) dX6_pocket_8 ?_
    refine PW.iret rfl (Nat.le_refl _) (Nat.le_refl _) dX6_pocket_9 ?_
    exact ⟨by rw [pockS, if_neg hk], rfl⟩
end LOOK
