/-! ===== the class: Arrays.fill, laws ===== -/
section XLW
variable {b s : Nat} {sc : pw_E} {mem : pw_M} {R : DR} {e : Nat}
set_option maxHeartbeats 4000000 in
theorem j_fill (hS : St b s sc mem) {r : Nat} (h9 : 9 ≤ r) (hr : SK[r - 9]? = some (.inl (0, 0, 6, []))) (x : Int32) : Ret 0 0 0 mJ7_fill_53178 [.ref r, .int x] mem (fun u m1 => u = none ∧ St b s sc m1 ∧ Ag (fun q => q ≠ r) mem m1 ∧ ∀ i, i < 6 → iv m1 r i = x) := by
  refine Ret.of (by decide) (Nat.le_of_ble_eq_true rfl) fun l G => ?_
  show PW _ _ _ _ [(0, _), (1, _)] _ _ _
  refine PW.iconst (v := nI 0) (by decide) dJ7_fill_53178_0 ?_
  refine PW.istore_n rfl (by decide) dJ7_fill_53178_1 (?_ : PW _ _ _ _ [(0, _), (1, _), (2, _)] _ _ _)
  refine PW.aload_n rfl rfl dJ7_fill_53178_2 ?_
  refine PW.alen (hS.1.arr h9 hr) h9 (fun _ => rfl) dJ7_fill_53178_3 ?_
  refine PW.istore_n rfl (by decide) dJ7_fill_53178_4 (?_ : PW _ _ _ _ [(0, _), (1, _), (2, _), (3, _)] _ _ _)
  refine PW.loop (I := fun j m => St b s sc m ∧ Ag (fun q => q ≠ r) mem m ∧ ∀ i, i < j → iv m r i = x) (fun j _ => [(0, .ref r), (1, .int x), (2, .int (nI j)), (3, .int (nI 6))]) (fun _ m => m) 6 (fun j m hj hI ih => ?_) (fun m hI => ?_) mem ⟨hS, Ag.rf, fun i hi => absurd hi (Nat.not_lt_zero _)⟩
  · obtain ⟨hS, hA, hv⟩ := hI
    refine PW.iload_n rfl rfl dJ7_fill_53178_5 ?_
    refine PW.iload_n rfl rfl dJ7_fill_53178_6 ?_
    refine PW.icmp_geN 20 (by decide) (by first | omega | (split <;> omega)) (by first | omega | (split <;> omega)) dJ7_fill_53178_7 (fun hc7 => by exfalso; omega) (fun hc7 => ?_)
    refine PW.aload_n rfl rfl dJ7_fill_53178_10 ?_
    refine PW.iload_n rfl rfl dJ7_fill_53178_11 ?_
    refine PW.iload_n rfl rfl dJ7_fill_53178_12 ?_
    refine PW.uI hS h9 hr (by exact rfl) ⟨by omega, by decide⟩ dJ7_fill_53178_13 (fun hS hw13 => ?_)
    refine PW.iincN rfl (by decide) dJ7_fill_53178_14 (?_ : PW _ _ _ _ [(0, _), (1, _), (2, _), (3, _)] _ _ _)
    refine PW.goto 5 (by decide) dJ7_fill_53178_17 ?_
    refine ih _ ⟨hS, hA.tr (Ag.wI (fun h => h rfl)), fun i hi => ?_⟩
    rw [hw13]
    by_cases e : i = j
    · rw [if_pos e]
    · rw [if_neg e]; exact hv i (by omega)
  · obtain ⟨hS, hA, hv⟩ := hI
    refine PW.iload_n rfl rfl dJ7_fill_53178_5 ?_
    refine PW.iload_n rfl rfl dJ7_fill_53178_6 ?_
    refine PW.icmp_geN 20 (by decide) (by first | omega | (split <;> omega)) (by first | omega | (split <;> omega)) dJ7_fill_53178_7 (fun hc7 => ?_) (fun hc7 => by exfalso; omega)
    refine PW.vret rfl (Nat.le_refl _) (Nat.le_refl _) dJ7_fill_53178_20 ?_
    exact ⟨rfl, hS, hA, hv⟩
set_option maxHeartbeats 4000000 in
theorem x_opens (hS : St b s sc mem) (he : e = 49 ∨ e = 72) (hX : XD mem e R) (hL : XL mem e R) (hD : Dat R) {a c t : Nat} (ha : a < R 0 0) (hc : c < R 0 0) (ht : t < 6) : Rf 1 mX2_opens [.ref e, .int (nI a), .int (nI c), .int (nI t)] mem (some (.int (bI ((R 9 a).testBit c && letN R c t)))) mem := by
  have h6 := hD.1
  have h9 := (hD.2.2.2.2.1 a (by omega)).2.2.1
  have hp := pow6 h6
  have hl := letsN_lt R c 6
  have hb := letsN_bit R c 6 t
  rw [decide_eq_true ht, Bool.true_and] at hb
  refine Ret.of (by decide) (Nat.le_of_ble_eq_true rfl) fun l G => ?_
  show PW _ _ _ _ [(0, _), (1, _), (2, _), (3, _)] _ _ _
  refine PW.aload_n rfl rfl dX2_opens_0 ?_
  refine PW.gR hS.1 (by have := he; omega) (skR9 he) fX2_30 dX2_opens_1 ?_
  refine PW.iload_n rfl rfl dX2_opens_4 ?_
  refine PW.aI hS.1 (by have := he; omega) (akR7 he) (by exact rfl) ⟨by omega, by decide⟩ (by first | exact (hX.2.2.2.2.1 _ (by omega)).2.2.1 | exact hL.1 _ hc | exact rfl) dX2_opens_5 ?_
  refine PW.iload_n rfl rfl dX2_opens_6 ?_
  refine PW.cSN _ kX2_107 (x_has (a := R 9 a) (k := c) (by omega) (by omega) mem) rfl rfl (Nat.le_of_ble_eq_true rfl) ⟨by decide, by decide⟩ ⟨Nat.zero_le _, Nat.zero_le _⟩ dX2_opens_7 ?_
  refine PW.if_eqB 30 (by decide) dX2_opens_10 (fun hc10 => ?_) (fun hc10 => ?_)
  · refine PW.iconst (v := nI 0) (by decide) dX2_opens_30 ?_
    refine PW.zret rfl (by first | exact bI_nar _ | rfl) (Nat.le_refl _) (Nat.le_refl _) dX2_opens_31 ?_
    first | exact ⟨by rw [← hb, hc10, hc23]; rfl, rfl⟩ | exact ⟨by rw [hc10]; rfl, rfl⟩
  · refine PW.aload_n rfl rfl dX2_opens_13 ?_
    refine PW.gR hS.1 (by have := he; omega) (skR17 he) fX2_56 dX2_opens_14 ?_
    refine PW.iload_n rfl rfl dX2_opens_17 ?_
    refine PW.aI hS.1 (by have := he; omega) (akR21 he) (by exact rfl) ⟨by omega, by decide⟩ (by first | exact (hX.2.2.2.2.1 _ (by omega)).2.2.1 | exact hL.1 _ hc | exact rfl) dX2_opens_18 ?_
    refine PW.iload_n rfl rfl dX2_opens_19 ?_
    refine PW.cSN _ kX2_107 (x_has (a := letsN R c 6) (k := t) (by omega) (by omega) mem) rfl rfl (Nat.le_of_ble_eq_true rfl) ⟨by decide, by decide⟩ ⟨Nat.zero_le _, Nat.zero_le _⟩ dX2_opens_20 ?_
    refine PW.if_eqB 30 (by decide) dX2_opens_23 (fun hc23 => ?_) (fun hc23 => ?_)
    · refine PW.iconst (v := nI 0) (by decide) dX2_opens_30 ?_
      refine PW.zret rfl (by first | exact bI_nar _ | rfl) (Nat.le_refl _) (Nat.le_refl _) dX2_opens_31 ?_
      first | exact ⟨by rw [← hb, hc10, hc23]; rfl, rfl⟩ | exact ⟨by rw [hc10]; rfl, rfl⟩
    · refine PW.iconst (v := nI 1) (by decide) dX2_opens_26 ?_
      refine PW.goto 31 (by decide) dX2_opens_27 ?_
      refine PW.zret rfl (by first | exact bI_nar _ | rfl) (Nat.le_refl _) (Nat.le_refl _) dX2_opens_31 ?_
      first | exact ⟨by rw [← hb, hc10, hc23]; rfl, rfl⟩ | exact ⟨by rw [hc10]; rfl, rfl⟩
set_option maxHeartbeats 4000000 in
theorem x_price (hS : St b s sc mem) (he : e = 49 ∨ e = 72) (hX : XD mem e R) (hD : Dat R) {a c t : Nat} (ha : a < R 0 0) (hc : c < R 0 0) (ht : t < 6) : Rf 1 mX2_price [.ref e, .int (nI a), .int (nI c), .int (nI t)] mem (some (.int (nI (if (R 12 (6 * a + c)).testBit t then 0 else R 5 c)))) mem := by
  have h6 := hD.1
  have h64 := hD.2.2.2.2.2.1 a c (by omega) (by omega)
  refine Ret.of (by decide) (Nat.le_of_ble_eq_true rfl) fun l G => ?_
  show PW _ _ _ _ [(0, _), (1, _), (2, _), (3, _)] _ _ _
  refine PW.aload_n rfl rfl dX2_price_0 ?_
  refine PW.gR hS.1 (by have := he; omega) (skR12 he) fX2_41 dX2_price_1 ?_
  refine PW.iload_n rfl rfl dX2_price_4 ?_
  refine PW.aQ hS.1 (by have := he; omega) (akR10 he) (fun _ => rfl) rfl (by exact rfl) ⟨by omega, by decide⟩ (akRq (by omega)) dX2_price_5 ?_
  refine PW.iload_n rfl rfl dX2_price_6 ?_
  refine PW.aI hS.1 (by have := he; omega) (akRt he (by omega)) (by exact rfl) ⟨by omega, by decide⟩ (by first | exact (hX.2.2.2.2.2.1 _ _ (by omega) (by omega)) | exact (hX.2.2.2.1 _ hc).2.2.1 | exact rfl) dX2_price_7 ?_
  refine PW.iload_n rfl rfl dX2_price_8 ?_
  refine PW.cSN _ kX2_107 (x_has (a := R 12 (6 * a + c)) (k := t) (by omega) (by omega) mem) rfl rfl (Nat.le_of_ble_eq_true rfl) ⟨by decide, by decide⟩ ⟨Nat.zero_le _, Nat.zero_le _⟩ dX2_price_9 ?_
  refine PW.if_eqB 19 (by decide) dX2_price_12 (fun hc12 => ?_) (fun hc12 => ?_)
  · refine PW.aload_n rfl rfl dX2_price_19 ?_
    refine PW.gR hS.1 (by have := he; omega) (skR5 he) fX2_18 dX2_price_20 ?_
    refine PW.iload_n rfl rfl dX2_price_23 ?_
    refine PW.aI hS.1 (by have := he; omega) (akR3 he) (by exact rfl) ⟨by omega, by decide⟩ (by first | exact (hX.2.2.2.2.2.1 _ _ (by omega) (by omega)) | exact (hX.2.2.2.1 _ hc).2.2.1 | exact rfl) dX2_price_24 ?_
    refine PW.iret rfl (Nat.le_refl _) (Nat.le_refl _) dX2_price_25 ?_
    exact ⟨by rw [hc12]; rfl, rfl⟩
  · refine PW.iconst (v := nI 0) (by decide) dX2_price_15 ?_
    refine PW.goto 25 (by decide) dX2_price_16 ?_
    refine PW.iret rfl (Nat.le_refl _) (Nat.le_refl _) dX2_price_25 ?_
    exact ⟨by rw [hc12]; rfl, rfl⟩
set_option maxHeartbeats 4000000 in
theorem x_lawSays (hS : St b s sc mem) (he : e = 49 ∨ e = 72) (hX : XD mem e R) (hD : Dat R) {k a t : Nat} (hk : k < R 0 0) (ha : a < 64) (ht : t < 6) : Rf 1 mX2_lawSays [.ref e, .int (nI k), .int (nI a), .int (nI t)] mem (some (.int (bI (lawN R k a t)))) mem := by
  have h6 := hD.1
  obtain ⟨d7, d8, -⟩ := hD.2.2.2.2.1 k (by omega)
  obtain ⟨x5, x6, -⟩ := hX.2.2.2.2.1 k (by omega)
  have h4 := (hD.2.2.2.1 k hk).2.2.1
  rcases (show R 7 k = 0 ∨ R 7 k = 1 ∨ R 7 k = 2 by omega) with h7 | h7 | h7
  · have hl : lawN R k a t = !(R 4 k).testBit t := by simp [lawN, h7]
    have hsw : Op.lookupswitch.offset #[(1, 26), (2, 37)].toList 56 (nI 0).toInt = 56 := by decide
    refine Ret.of (by decide) (Nat.le_of_ble_eq_true rfl) fun l G => ?_
    show PW _ _ _ _ [(0, _), (1, _), (2, _), (3, _)] _ _ _
    refine PW.aload_n rfl rfl dX2_lawSays_0 ?_
    refine PW.gR hS.1 (by have := he; omega) (skR7 he) fX2_24 dX2_lawSays_1 ?_
    refine PW.iload_n rfl rfl dX2_lawSays_4 ?_
    refine PW.aI hS.1 (by have := he; omega) (akR5 he) (by exact rfl) ⟨by omega, by decide⟩ (by first | exact x5.trans (by rw [h7]) | exact (hX.2.2.2.1 k hk).2.1 | exact rfl) dX2_lawSays_5 ?_
    refine PW.lookup 62 (by decide) rfl (by decide) dX2_lawSays_6 ?_
    refine PW.aload_n rfl rfl dX2_lawSays_62 ?_
    refine PW.gR hS.1 (by have := he; omega) (skR4 he) fX2_15 dX2_lawSays_63 ?_
    refine PW.iload_n rfl rfl dX2_lawSays_66 ?_
    refine PW.aI hS.1 (by have := he; omega) (akR2 he) (by exact rfl) ⟨by omega, by decide⟩ (by first | exact x5.trans (by rw [h7]) | exact (hX.2.2.2.1 k hk).2.1 | exact rfl) dX2_lawSays_67 ?_
    refine PW.iload_n rfl rfl dX2_lawSays_68 ?_
    refine PW.cSN _ kX2_107 (x_has (a := R 4 k) (k := t) (by omega) (by omega) mem) rfl rfl (Nat.le_of_ble_eq_true rfl) ⟨by decide, by decide⟩ ⟨Nat.zero_le _, Nat.zero_le _⟩ dX2_lawSays_69 ?_
    refine PW.if_neB 79 (by decide) dX2_lawSays_72 (fun hc72 => ?_) (fun hc72 => ?_)
    · refine PW.iconst (v := nI 0) (by decide) dX2_lawSays_79 ?_
      refine PW.zret rfl (by first | exact bI_nar _ | rfl) (Nat.le_refl _) (Nat.le_refl _) dX2_lawSays_80 ?_
      exact ⟨by rw [hl, hc72]; rfl, rfl⟩
    · refine PW.iconst (v := nI 1) (by decide) dX2_lawSays_75 ?_
      refine PW.goto 80 (by decide) dX2_lawSays_76 ?_
      refine PW.zret rfl (by first | exact bI_nar _ | rfl) (Nat.le_refl _) (Nat.le_refl _) dX2_lawSays_80 ?_
      exact ⟨by rw [hl, hc72]; rfl, rfl⟩
  · have hl : lawN R k a t = a.testBit (R 8 k) := by simp [lawN, h7]
    have h8 := d8 (by omega)
    refine Ret.of (by decide) (Nat.le_of_ble_eq_true rfl) fun l G => ?_
    show PW _ _ _ _ [(0, _), (1, _), (2, _), (3, _)] _ _ _
    refine PW.aload_n rfl rfl dX2_lawSays_0 ?_
    refine PW.gR hS.1 (by have := he; omega) (skR7 he) fX2_24 dX2_lawSays_1 ?_
    refine PW.iload_n rfl rfl dX2_lawSays_4 ?_
    refine PW.aI hS.1 (by have := he; omega) (akR5 he) (by exact rfl) ⟨by omega, by decide⟩ (by first | exact x5.trans (by rw [h7]) | exact x6 (by omega) | exact rfl) dX2_lawSays_5 ?_
    refine PW.lookup 32 (by decide) rfl (by decide) dX2_lawSays_6 ?_
    refine PW.iload_n rfl rfl dX2_lawSays_32 ?_
    refine PW.aload_n rfl rfl dX2_lawSays_33 ?_
    refine PW.gR hS.1 (by have := he; omega) (skR8 he) fX2_27 dX2_lawSays_34 ?_
    refine PW.iload_n rfl rfl dX2_lawSays_37 ?_
    refine PW.aI hS.1 (by have := he; omega) (akR6 he) (by exact rfl) ⟨by omega, by decide⟩ (by first | exact x5.trans (by rw [h7]) | exact x6 (by omega) | exact rfl) dX2_lawSays_38 ?_
    refine PW.cSN _ kX2_107 (x_has (a := a) (k := R 8 k) (by omega) (by omega) mem) rfl rfl (Nat.le_of_ble_eq_true rfl) ⟨by decide, by decide⟩ ⟨Nat.zero_le _, Nat.zero_le _⟩ dX2_lawSays_39 ?_
    refine PW.zret rfl (by first | exact bI_nar _ | rfl) (Nat.le_refl _) (Nat.le_refl _) dX2_lawSays_42 ?_
    exact ⟨by rw [hl], rfl⟩
  · have hl : lawN R k a t = !a.testBit (R 8 k) := by simp [lawN, h7]
    have h8 := d8 (by omega)
    refine Ret.of (by decide) (Nat.le_of_ble_eq_true rfl) fun l G => ?_
    show PW _ _ _ _ [(0, _), (1, _), (2, _), (3, _)] _ _ _
    refine PW.aload_n rfl rfl dX2_lawSays_0 ?_
    refine PW.gR hS.1 (by have := he; omega) (skR7 he) fX2_24 dX2_lawSays_1 ?_
    refine PW.iload_n rfl rfl dX2_lawSays_4 ?_
    refine PW.aI hS.1 (by have := he; omega) (akR5 he) (by exact rfl) ⟨by omega, by decide⟩ (by first | exact x5.trans (by rw [h7]) | exact x6 (by omega) | exact rfl) dX2_lawSays_5 ?_
    refine PW.lookup 43 (by decide) rfl (by decide) dX2_lawSays_6 ?_
    refine PW.iload_n rfl rfl dX2_lawSays_43 ?_
    refine PW.aload_n rfl rfl dX2_lawSays_44 ?_
    refine PW.gR hS.1 (by have := he; omega) (skR8 he) fX2_27 dX2_lawSays_45 ?_
    refine PW.iload_n rfl rfl dX2_lawSays_48 ?_
    refine PW.aI hS.1 (by have := he; omega) (akR6 he) (by exact rfl) ⟨by omega, by decide⟩ (by first | exact x5.trans (by rw [h7]) | exact x6 (by omega) | exact rfl) dX2_lawSays_49 ?_
    refine PW.cSN _ kX2_107 (x_has (a := a) (k := R 8 k) (by omega) (by omega) mem) rfl rfl (Nat.le_of_ble_eq_true rfl) ⟨by decide, by decide⟩ ⟨Nat.zero_le _, Nat.zero_le _⟩ dX2_lawSays_50 ?_
    refine PW.if_neB 60 (by decide) dX2_lawSays_53 (fun hc53 => ?_) (fun hc53 => ?_)
    · refine PW.iconst (v := nI 0) (by decide) dX2_lawSays_60 ?_
      refine PW.zret rfl (by first | exact bI_nar _ | rfl) (Nat.le_refl _) (Nat.le_refl _) dX2_lawSays_61 ?_
      exact ⟨by rw [hl, hc53]; rfl, rfl⟩
    · refine PW.iconst (v := nI 1) (by decide) dX2_lawSays_56 ?_
      refine PW.goto 61 (by decide) dX2_lawSays_57 ?_
      refine PW.zret rfl (by first | exact bI_nar _ | rfl) (Nat.le_refl _) (Nat.le_refl _) dX2_lawSays_61 ?_
      exact ⟨by rw [hl, hc53]; rfl, rfl⟩
set_option maxHeartbeats 4000000 in
theorem x_allHold (hS : St b s sc mem) (he : e = 49 ∨ e = 72) (hX : XD mem e R) (hD : Dat R) {a t : Nat} (ha : a < 64) (ht : t < 6) : Rf 2 mX2_allHold [.ref e, .int (nI a), .int (nI t)] mem (some (.int (bI (holdN R a t (R 0 0))))) mem := by
  have h6 := hD.1
  refine Ret.of (by decide) (Nat.le_of_ble_eq_true rfl) fun l G => ?_
  show PW _ _ _ _ [(0, _), (1, _), (2, _)] _ _ _
  refine PW.iconst (v := nI 0) (by decide) dX2_allHold_0 ?_
  refine PW.istore_n rfl (by decide) dX2_allHold_1 (?_ : PW _ _ _ _ [(0, _), (1, _), (2, _), (3, _)] _ _ _)
  refine PW.loop (σ := Unit) (I := fun j _ => holdN R a t j = true) (fun j _ => [(0, .ref e), (1, .int (nI a)), (2, .int (nI t)), (3, .int (nI j))]) (fun _ _ => mem) (R 0 0) (fun j _ hj hI ih => ?_) (fun _ hI => ?_) () rfl
  · refine PW.iload_n rfl rfl dX2_allHold_2 ?_
    refine PW.aload_n rfl rfl dX2_allHold_3 ?_
    refine PW.gI hS.1 (by have := he; omega) (skR0 he) (by first | exact hX.1 | exact rfl) fX2_62 dX2_allHold_4 ?_
    refine PW.icmp_geN 33 (by decide) (by first | omega | (split <;> omega)) (by first | omega | (split <;> omega)) dX2_allHold_7 (fun hc7 => by exfalso; omega) (fun hc7 => ?_)
    refine PW.iload_n rfl rfl dX2_allHold_10 ?_
    refine PW.iload_n rfl rfl dX2_allHold_11 ?_
    refine PW.cSN _ kX2_107 (x_has (a := a) (k := j) (by omega) (by omega) mem) rfl rfl (Nat.le_of_ble_eq_true rfl) ⟨by decide, by decide⟩ ⟨Nat.zero_le _, Nat.zero_le _⟩ dX2_allHold_12 ?_
    refine PW.aload_n rfl rfl dX2_allHold_15 ?_
    refine PW.iload_n rfl rfl dX2_allHold_16 ?_
    refine PW.iload_n rfl rfl dX2_allHold_17 ?_
    refine PW.iload_n rfl rfl dX2_allHold_18 ?_
    refine PW.cV (ci := 2) (j := 0) _ hS.1 (by have := he; omega) (skR0 he) kX2_113 (x_lawSays hS he hX hD hj ha ht) rfl rfl (Nat.le_of_ble_eq_true rfl) rfl ⟨by decide, by decide⟩ ⟨Nat.zero_le _, Nat.zero_le _⟩ dX2_allHold_19 ?_
    refine PW.icmp_eqB 27 (by decide) dX2_allHold_22 (fun hc22 => ?_) (fun hc22 => ?_)
    · refine PW.iincN rfl (by decide) dX2_allHold_27 (?_ : PW _ _ _ _ [(0, _), (1, _), (2, _), (3, _)] _ _ _)
      refine PW.goto 2 (by decide) dX2_allHold_30 ?_
      exact ih () (by show (holdN R a t j && (a.testBit j == lawN R j a t)) = true; rw [hI, hc22]; simp)
    · refine PW.iconst (v := nI 0) (by decide) dX2_allHold_25 ?_
      refine PW.zret rfl (by first | exact bI_nar _ | rfl) (Nat.le_refl _) (Nat.le_refl _) dX2_allHold_26 ?_
      exact ⟨by rw [holdN_off (k := j + 1) (by show (holdN R a t j && (a.testBit j == lawN R j a t)) = false; rw [hI]; simpa using hc22) (by omega)]; rfl, rfl⟩
  · refine PW.iload_n rfl rfl dX2_allHold_2 ?_
    refine PW.aload_n rfl rfl dX2_allHold_3 ?_
    refine PW.gI hS.1 (by have := he; omega) (skR0 he) (by first | exact hX.1 | exact rfl) fX2_62 dX2_allHold_4 ?_
    refine PW.icmp_geN 33 (by decide) (by first | omega | (split <;> omega)) (by first | omega | (split <;> omega)) dX2_allHold_7 (fun hc7 => ?_) (fun hc7 => by exfalso; omega)
    refine PW.iconst (v := nI 1) (by decide) dX2_allHold_33 ?_
    refine PW.zret rfl (by first | exact bI_nar _ | rfl) (Nat.le_refl _) (Nat.le_refl _) dX2_allHold_34 ?_
    exact ⟨by rw [hI]; rfl, rfl⟩
set_option maxHeartbeats 4000000 in
theorem x_outerLetsIn (hS : St b s sc mem) (he : e = 49 ∨ e = 72) (hX : XD mem e R) (hD : Dat R) {k t : Nat} (hk : k < R 0 0) (ht : t < 6) (hl : R 6 k ≠ 9 → iv mem (e + 21) (R 6 k) = nI (letsN R (R 6 k) (t + 1))) : Rf 1 mX2_outerLetsIn [.ref e, .int (nI k), .int (nI t)] mem (some (.int (bI (decide (R 6 k = 9) || letN R (R 6 k) t)))) mem := by
  have h6 := hD.1
  have h9 := (hD.2.2.2.1 k hk).2.2.2.2
  have hlt := letsN_lt R (R 6 k) (t + 1)
  have h64 : 2 ^ (t + 1) ≤ 64 := Nat.le_trans (Nat.pow_le_pow_right (by decide) (show t + 1 ≤ 6 by omega)) (by decide)
  have hb := letsN_bit R (R 6 k) (t + 1) t
  rw [decide_eq_true (by omega), Bool.true_and] at hb
  refine Ret.of (by decide) (Nat.le_of_ble_eq_true rfl) fun l G => ?_
  show PW _ _ _ _ [(0, _), (1, _), (2, _)] _ _ _
  refine PW.aload_n rfl rfl dX2_outerLetsIn_0 ?_
  refine PW.gR hS.1 (by have := he; omega) (skR6 he) fX2_21 dX2_outerLetsIn_1 ?_
  refine PW.iload_n rfl rfl dX2_outerLetsIn_4 ?_
  refine PW.aI hS.1 (by have := he; omega) (akR4 he) (by exact rfl) ⟨by omega, by decide⟩ (by first | exact (hX.2.2.2.1 k hk).2.2.2 | exact hl hc8 | exact rfl) dX2_outerLetsIn_5 ?_
  refine PW.bipush (v := nI 9) (by decide) dX2_outerLetsIn_6 ?_
  refine PW.icmp_eqN 29 (by decide) (by first | omega | (split <;> omega)) (by first | omega | (split <;> omega)) dX2_outerLetsIn_8 (fun hc8 => ?_) (fun hc8 => ?_)
  · refine PW.iconst (v := nI 1) (by decide) dX2_outerLetsIn_29 ?_
    refine PW.goto 34 (by decide) dX2_outerLetsIn_30 ?_
    refine PW.zret rfl (by first | exact bI_nar _ | rfl) (Nat.le_refl _) (Nat.le_refl _) dX2_outerLetsIn_34 ?_
    first | exact ⟨by rw [hc8]; rfl, rfl⟩ | exact ⟨by rw [decide_eq_false hc8, ← hb, hc26]; rfl, rfl⟩
  · refine PW.aload_n rfl rfl dX2_outerLetsIn_11 ?_
    refine PW.gR hS.1 (by have := he; omega) (skR17 he) fX2_56 dX2_outerLetsIn_12 ?_
    refine PW.aload_n rfl rfl dX2_outerLetsIn_15 ?_
    refine PW.gR hS.1 (by have := he; omega) (skR6 he) fX2_21 dX2_outerLetsIn_16 ?_
    refine PW.iload_n rfl rfl dX2_outerLetsIn_19 ?_
    refine PW.aI hS.1 (by have := he; omega) (akR4 he) (by exact rfl) ⟨by omega, by decide⟩ (by first | exact (hX.2.2.2.1 k hk).2.2.2 | exact hl hc8 | exact rfl) dX2_outerLetsIn_20 ?_
    refine PW.aI hS.1 (by have := he; omega) (akR21 he) (by exact rfl) ⟨by omega, by decide⟩ (by first | exact (hX.2.2.2.1 k hk).2.2.2 | exact hl hc8 | exact rfl) dX2_outerLetsIn_21 ?_
    refine PW.iload_n rfl rfl dX2_outerLetsIn_22 ?_
    refine PW.cSN _ kX2_107 (x_has (a := letsN R (R 6 k) (t + 1)) (k := t) (by omega) (by omega) mem) rfl rfl (Nat.le_of_ble_eq_true rfl) ⟨by decide, by decide⟩ ⟨Nat.zero_le _, Nat.zero_le _⟩ dX2_outerLetsIn_23 ?_
    refine PW.if_eqB 33 (by decide) dX2_outerLetsIn_26 (fun hc26 => ?_) (fun hc26 => ?_)
    · refine PW.iconst (v := nI 0) (by decide) dX2_outerLetsIn_33 ?_
      refine PW.zret rfl (by first | exact bI_nar _ | rfl) (Nat.le_refl _) (Nat.le_refl _) dX2_outerLetsIn_34 ?_
      first | exact ⟨by rw [hc8]; rfl, rfl⟩ | exact ⟨by rw [decide_eq_false hc8, ← hb, hc26]; rfl, rfl⟩
    · refine PW.iconst (v := nI 1) (by decide) dX2_outerLetsIn_29 ?_
      refine PW.goto 34 (by decide) dX2_outerLetsIn_30 ?_
      refine PW.zret rfl (by first | exact bI_nar _ | rfl) (Nat.le_refl _) (Nat.le_refl _) dX2_outerLetsIn_34 ?_
      first | exact ⟨by rw [hc8]; rfl, rfl⟩ | exact ⟨by rw [decide_eq_false hc8, ← hb, hc26]; rfl, rfl⟩
end XLW
section XLX
variable {b s : Nat} {sc : pw_E} {mem : pw_M} {R : DR} {e : Nat}
set_option maxHeartbeats 8000000 in
theorem x_settleLawsOf (hS : St b s sc mem) (he : e = 49 ∨ e = 72) (hX : XD mem e R) (hD : Dat R) {t : Nat} (ht : t < 6) (hl : ∀ k, k < R 0 0 → iv mem (e + 21) k = nI (letsN R k t)) :
    Ret 3 0 0 mX2_settleLawsOf [.ref e, .int (nI t)] mem (fun u m1 => u = none ∧ St b s sc m1 ∧ Ag (fun q => q ≠ e + 21 ∧ q ≠ e + 22) mem m1 ∧ (∀ k, k < R 0 0 → iv m1 (e + 21) k = nI (letsN R k (t + 1))) ∧ ∀ i, iv m1 (e + 22) i = if i = t then nI (fixN R t (2 ^ R 0 0)) else iv mem (e + 22) i) := by
  have h6 := hD.1
  have hp := pow6 h6
  have h2t : 2 ^ t ≤ 64 := Nat.le_trans (Nat.pow_le_pow_right (by decide) (show t ≤ 6 by omega)) (by decide)
  refine Ret.of (by decide) (Nat.le_of_ble_eq_true rfl) fun l G => ?_
  show PW _ _ _ _ [(0, _), (1, _)] _ _ _
  refine PW.iconst (v := nI 0) (by decide) dX2_settleLawsOf_0 ?_
  refine PW.istore_n rfl (by decide) dX2_settleLawsOf_1 (?_ : PW _ _ _ _ [(0, _), (1, _), (2, _)] _ _ _)
  refine PW.iconst (v := nI 1) (by decide) dX2_settleLawsOf_2 ?_
  refine PW.aload_n rfl rfl dX2_settleLawsOf_3 ?_
  refine PW.gI hS.1 (by have := he; omega) (skR0 he) (by first | exact hX.1 | exact rfl) fX2_62 dX2_settleLawsOf_4 ?_
  refine PW.ishl1 (by omega) dX2_settleLawsOf_7 ?_
  refine PW.iconst (v := nI 1) (by decide) dX2_settleLawsOf_8 ?_
  refine PW.isubN (by omega) dX2_settleLawsOf_9 ?_
  refine PW.istore_n rfl (by decide) dX2_settleLawsOf_10 (?_ : PW _ _ _ _ [(0, _), (1, _), (2, _), (3, _)] _ _ _)
  refine PW.iconst (v := nI 0) (by decide) dX2_settleLawsOf_11 ?_
  refine PW.istore (by decide) dX2_settleLawsOf_12 (?_ : PW _ _ _ _ [(0, _), (1, _), (2, _), (3, _), (4, _)] _ _ _)
  refine PW.up (fun j => [(0, .ref e), (1, .int (nI t)), (2, .int (nI (fixN R t j))), (3, .int (nI (allN R t j))), (4, .int (nI j))]) (fun _ => mem) (2 ^ R 0 0) (fun j hj ih => ?_) ?_
  · have ef : fixN R t (j + 1) = fixN R t j + if holdN R j t (R 0 0) then 1 else 0 := rfl
    have ea : allN R t (j + 1) = if holdN R j t (R 0 0) then allN R t j &&& j else allN R t j := rfl
    refine PW.iload rfl dX2_settleLawsOf_14 ?_
    refine PW.iconst (v := nI 1) (by decide) dX2_settleLawsOf_16 ?_
    refine PW.aload_n rfl rfl dX2_settleLawsOf_17 ?_
    refine PW.gI hS.1 (by have := he; omega) (skR0 he) (by first | exact hX.1 | exact rfl) fX2_62 dX2_settleLawsOf_18 ?_
    refine PW.ishl1 (by omega) dX2_settleLawsOf_21 ?_
    refine PW.icmp_geN 49 (by decide) (by first | omega | (split <;> omega)) (by first | omega | (split <;> omega)) dX2_settleLawsOf_22 (fun hc22 => by exfalso; omega) (fun hc22 => ?_)
    refine PW.aload_n rfl rfl dX2_settleLawsOf_25 ?_
    refine PW.iload rfl dX2_settleLawsOf_26 ?_
    refine PW.iload_n rfl rfl dX2_settleLawsOf_28 ?_
    refine PW.cV (ci := 2) (j := 0) _ hS.1 (by have := he; omega) (skR0 he) kX2_103 (x_allHold hS he hX hD (a := j) (by omega) ht) rfl rfl (Nat.le_of_ble_eq_true rfl) rfl ⟨by decide, by decide⟩ ⟨Nat.zero_le _, Nat.zero_le _⟩ dX2_settleLawsOf_29 ?_
    refine PW.if_eqB 43 (by decide) dX2_settleLawsOf_32 (fun hc32 => ?_) (fun hc32 => ?_)
    · refine PW.iincN rfl (by decide) dX2_settleLawsOf_43 (?_ : PW _ _ _ _ [(0, _), (1, _), (2, _), (3, _), (4, _)] _ _ _)
      refine PW.goto 14 (by decide) dX2_settleLawsOf_46 ?_
      rw [ef, ea, hc32] at ih
      exact ih
    · refine PW.iincN rfl (by decide) dX2_settleLawsOf_35 (?_ : PW _ _ _ _ [(0, _), (1, _), (2, _), (3, _), (4, _)] _ _ _)
      refine PW.iload_n rfl rfl dX2_settleLawsOf_38 ?_
      refine PW.iload rfl dX2_settleLawsOf_39 ?_
      refine PW.iandN dX2_settleLawsOf_41 ?_
      refine PW.istore_n rfl (by decide) dX2_settleLawsOf_42 (?_ : PW _ _ _ _ [(0, _), (1, _), (2, _), (3, _), (4, _)] _ _ _)
      refine PW.iincN rfl (by decide) dX2_settleLawsOf_43 (?_ : PW _ _ _ _ [(0, _), (1, _), (2, _), (3, _), (4, _)] _ _ _)
      refine PW.goto 14 (by decide) dX2_settleLawsOf_46 ?_
      rw [ef, ea, hc32] at ih
      exact ih
  have hfl := fixN_le R t (2 ^ R 0 0)
  have hal := allN_le R t (2 ^ R 0 0)
  generalize hF : fixN R t (2 ^ R 0 0) = f at hfl ⊢
  generalize hA : allN R t (2 ^ R 0 0) = al at hal ⊢
  have h59 : ∀ m, St b s sc m → Ag (fun q => q ≠ e + 21 ∧ q ≠ e + 22) mem m → (∀ i, iv m (e + 21) i = iv mem (e + 21) i) → (∀ i, iv m (e + 22) i = if i = t then nI f else iv mem (e + 22) i) → PW (l, G, mX2_settleLawsOf, pw_rm 3 0 0, 0, 0) 0 0 59 [(0, .ref e), (1, .int (nI t)), (2, .int (nI f)), (3, .int (nI al)), (4, .int (nI 0))] [] m (fun u m1 => u = none ∧ St b s sc m1 ∧ Ag (fun q => q ≠ e + 21 ∧ q ≠ e + 22) mem m1 ∧ (∀ k, k < R 0 0 → iv m1 (e + 21) k = nI (letsN R k (t + 1))) ∧ ∀ i, iv m1 (e + 22) i = if i = t then nI f else iv mem (e + 22) i) := by
    intro m hS hAg h21 h22
    refine PW.loop (I := fun j m => St b s sc m ∧ Ag (fun q => q ≠ e + 21 ∧ q ≠ e + 22) mem m ∧ (∀ i, iv m (e + 22) i = if i = t then nI f else iv mem (e + 22) i) ∧ (∀ i, i < j → iv m (e + 21) i = nI (letsN R i (t + 1))) ∧ ∀ i, j ≤ i → i < R 0 0 → iv m (e + 21) i = nI (letsN R i t)) (fun j _ => [(0, .ref e), (1, .int (nI t)), (2, .int (nI f)), (3, .int (nI al)), (4, .int (nI j))]) (fun _ m => m) (R 0 0) (fun j m hj hI ih => ?_) (fun m hI => ?_) m ⟨hS, hAg, h22, fun i hi => absurd hi (Nat.not_lt_zero _), fun i _ hi => by rw [h21]; exact hl i hi⟩
    · obtain ⟨hS, hAg, h22, hlo, hhi⟩ := hI
      have hX := hX.ag hAg (fun q h1 h2 => ⟨by omega, by omega⟩)
      have hln := letN_eq hD hj t
      have hlj := letsN_lt R j t
      rw [hF, hA] at hln
      have hnext : ∀ m', letN R j t = false → (∀ i, iv m' (e + 21) i = iv m (e + 21) i) → (∀ i, i < j + 1 → iv m' (e + 21) i = nI (letsN R i (t + 1))) ∧ ∀ i, j + 1 ≤ i → i < R 0 0 → iv m' (e + 21) i = nI (letsN R i t) := by
        intro m' hf heq
        refine ⟨fun i hi => ?_, fun i h1 h2 => by rw [heq]; exact hhi i (by omega) h2⟩
        rw [heq]
        by_cases e1 : i = j
        · subst e1
          rw [hhi i (Nat.le_refl _) hj]
          show _ = nI (if letN R i t then letsN R i t ||| 2 ^ t else letsN R i t)
          rw [hf]
          rfl
        · exact hlo i (by omega)
      have hset : letN R j t = true → ∀ m', (∀ i, iv m' (e + 21) i = if i = j then nI (letsN R j t ||| 2 ^ t) else iv m (e + 21) i) → (∀ i, i < j + 1 → iv m' (e + 21) i = nI (letsN R i (t + 1))) ∧ ∀ i, j + 1 ≤ i → i < R 0 0 → iv m' (e + 21) i = nI (letsN R i t) := by
        intro hf m' heq
        refine ⟨fun i hi => ?_, fun i h1 h2 => by rw [heq, if_neg (by omega)]; exact hhi i (by omega) h2⟩
        rw [heq]
        by_cases e1 : i = j
        · subst e1
          rw [if_pos rfl]
          show _ = nI (if letN R i t then letsN R i t ||| 2 ^ t else letsN R i t)
          rw [hf]
          rfl
        · rw [if_neg e1]
          exact hlo i (by omega)
      have ho : R 6 j ≠ 9 → iv m (e + 21) (R 6 j) = nI (letsN R (R 6 j) (t + 1)) := fun h9 => hlo _ ((hD.2.2.2.1 j hj).2.2.2.2.resolve_right h9)
      have h104 : ∀ m', St b s sc m' → Ag (fun q => q ≠ e + 21 ∧ q ≠ e + 22) mem m' → (∀ i, iv m' (e + 22) i = if i = t then nI f else iv mem (e + 22) i) → ((∀ i, i < j + 1 → iv m' (e + 21) i = nI (letsN R i (t + 1))) ∧ ∀ i, j + 1 ≤ i → i < R 0 0 → iv m' (e + 21) i = nI (letsN R i t)) → PW (l, G, mX2_settleLawsOf, pw_rm 3 0 0, 0, 0) 0 0 104 [(0, .ref e), (1, .int (nI t)), (2, .int (nI f)), (3, .int (nI al)), (4, .int (nI j))] [] m' (fun u m1 => u = none ∧ St b s sc m1 ∧ Ag (fun q => q ≠ e + 21 ∧ q ≠ e + 22) mem m1 ∧ (∀ k, k < R 0 0 → iv m1 (e + 21) k = nI (letsN R k (t + 1))) ∧ ∀ i, iv m1 (e + 22) i = if i = t then nI f else iv mem (e + 22) i) := by
        intro m' hS hAg h22 h21
        refine PW.iincN rfl (by decide) dX2_settleLawsOf_104 (?_ : PW _ _ _ _ [(0, _), (1, _), (2, _), (3, _), (4, _)] _ _ _)
        refine PW.goto 59 (by decide) dX2_settleLawsOf_107 ?_
        exact ih m' ⟨hS, hAg, h22, h21.1, h21.2⟩
      refine PW.iload rfl dX2_settleLawsOf_59 ?_
      refine PW.aload_n rfl rfl dX2_settleLawsOf_61 ?_
      refine PW.gI hS.1 (by have := he; omega) (skR0 he) (by first | exact hX.1 | exact hhi _ (Nat.le_refl _) hj | exact rfl) fX2_62 dX2_settleLawsOf_62 ?_
      refine PW.icmp_geN 110 (by decide) (by first | omega | (split <;> omega)) (by first | omega | (split <;> omega)) dX2_settleLawsOf_65 (fun hc65 => by exfalso; omega) (fun hc65 => ?_)
      refine PW.iload_n rfl rfl dX2_settleLawsOf_68 ?_
      refine PW.if_leN 104 (by decide) (by first | omega | (split <;> omega)) dX2_settleLawsOf_69 (fun hc69 => ?_) (fun hc69 => ?_)
      · first | exact h104 m hS hAg h22 (hnext m (by rw [hln, hc69]; rfl) (fun _ => rfl)) | exact h104 m hS hAg h22 (hnext m (by rw [hln, hc78, Bool.and_false, Bool.false_and]) (fun _ => rfl)) | exact h104 m hS hAg h22 (hnext m (by rw [hln, hc88, Bool.and_false]) (fun _ => rfl)) | exact h104 _ hS (hAg.tr (Ag.wI (fun h => h.1 rfl))) (fun i => by rw [iv_wI_ne (by omega)]; exact h22 i) (hset (by rw [hln, hc78, hc88, decide_eq_true hc69]; rfl) _ hw103)
      · refine PW.iload_n rfl rfl dX2_settleLawsOf_72 ?_
        refine PW.iload rfl dX2_settleLawsOf_73 ?_
        refine PW.cSN _ kX2_107 (x_has (a := al) (k := j) (by omega) (by omega) m) rfl rfl (Nat.le_of_ble_eq_true rfl) ⟨by decide, by decide⟩ ⟨Nat.zero_le _, Nat.zero_le _⟩ dX2_settleLawsOf_75 ?_
        refine PW.if_eqB 104 (by decide) dX2_settleLawsOf_78 (fun hc78 => ?_) (fun hc78 => ?_)
        · first | exact h104 m hS hAg h22 (hnext m (by rw [hln, hc69]; rfl) (fun _ => rfl)) | exact h104 m hS hAg h22 (hnext m (by rw [hln, hc78, Bool.and_false, Bool.false_and]) (fun _ => rfl)) | exact h104 m hS hAg h22 (hnext m (by rw [hln, hc88, Bool.and_false]) (fun _ => rfl)) | exact h104 _ hS (hAg.tr (Ag.wI (fun h => h.1 rfl))) (fun i => by rw [iv_wI_ne (by omega)]; exact h22 i) (hset (by rw [hln, hc78, hc88, decide_eq_true hc69]; rfl) _ hw103)
        · refine PW.aload_n rfl rfl dX2_settleLawsOf_81 ?_
          refine PW.iload rfl dX2_settleLawsOf_82 ?_
          refine PW.iload_n rfl rfl dX2_settleLawsOf_84 ?_
          refine PW.cV (ci := 2) (j := 0) _ hS.1 (by have := he; omega) (skR0 he) kX2_110 (x_outerLetsIn hS he hX hD hj ht ho) rfl rfl (Nat.le_of_ble_eq_true rfl) rfl ⟨by decide, by decide⟩ ⟨Nat.zero_le _, Nat.zero_le _⟩ dX2_settleLawsOf_85 ?_
          refine PW.if_eqB 104 (by decide) dX2_settleLawsOf_88 (fun hc88 => ?_) (fun hc88 => ?_)
          · first | exact h104 m hS hAg h22 (hnext m (by rw [hln, hc69]; rfl) (fun _ => rfl)) | exact h104 m hS hAg h22 (hnext m (by rw [hln, hc78, Bool.and_false, Bool.false_and]) (fun _ => rfl)) | exact h104 m hS hAg h22 (hnext m (by rw [hln, hc88, Bool.and_false]) (fun _ => rfl)) | exact h104 _ hS (hAg.tr (Ag.wI (fun h => h.1 rfl))) (fun i => by rw [iv_wI_ne (by omega)]; exact h22 i) (hset (by rw [hln, hc78, hc88, decide_eq_true hc69]; rfl) _ hw103)
          · refine PW.aload_n rfl rfl dX2_settleLawsOf_91 ?_
            refine PW.gR hS.1 (by have := he; omega) (skR17 he) fX2_56 dX2_settleLawsOf_92 ?_
            refine PW.iload rfl dX2_settleLawsOf_95 ?_
            refine PW.dup2 rfl rfl dX2_settleLawsOf_97 ?_
            refine PW.aI hS.1 (by have := he; omega) (akR21 he) (by exact rfl) ⟨by omega, by decide⟩ (by first | exact hX.1 | exact hhi _ (Nat.le_refl _) hj | exact rfl) dX2_settleLawsOf_98 ?_
            refine PW.iconst (v := nI 1) (by decide) dX2_settleLawsOf_99 ?_
            refine PW.iload_n rfl rfl dX2_settleLawsOf_100 ?_
            refine PW.ishl1 (by omega) dX2_settleLawsOf_101 ?_
            refine PW.iorN dX2_settleLawsOf_102 ?_
            refine PW.uI hS (by have := he; omega) (akR21 he) (by exact rfl) ⟨by omega, by decide⟩ dX2_settleLawsOf_103 (fun hS hw103 => ?_)
            first | exact h104 m hS hAg h22 (hnext m (by rw [hln, hc69]; rfl) (fun _ => rfl)) | exact h104 m hS hAg h22 (hnext m (by rw [hln, hc78, Bool.and_false, Bool.false_and]) (fun _ => rfl)) | exact h104 m hS hAg h22 (hnext m (by rw [hln, hc88, Bool.and_false]) (fun _ => rfl)) | exact h104 _ hS (hAg.tr (Ag.wI (fun h => h.1 rfl))) (fun i => by rw [iv_wI_ne (by omega)]; exact h22 i) (hset (by rw [hln, hc78, hc88, decide_eq_true hc69]; rfl) _ hw103)
    · obtain ⟨hS, hAg, h22, hlo, hhi⟩ := hI
      have hX := hX.ag hAg (fun q h1 h2 => ⟨by omega, by omega⟩)
      refine PW.iload rfl dX2_settleLawsOf_59 ?_
      refine PW.aload_n rfl rfl dX2_settleLawsOf_61 ?_
      refine PW.gI hS.1 (by have := he; omega) (skR0 he) (by first | exact hX.1 | exact hhi _ (Nat.le_refl _) hj | exact rfl) fX2_62 dX2_settleLawsOf_62 ?_
      refine PW.icmp_geN 110 (by decide) (by first | omega | (split <;> omega)) (by first | omega | (split <;> omega)) dX2_settleLawsOf_65 (fun hc65 => ?_) (fun hc65 => by exfalso; omega)
      refine PW.vret rfl (Nat.le_refl _) (Nat.le_refl _) dX2_settleLawsOf_110 ?_
      exact ⟨rfl, hS, hAg, hlo, h22⟩
  refine PW.iload rfl dX2_settleLawsOf_14 ?_
  refine PW.iconst (v := nI 1) (by decide) dX2_settleLawsOf_16 ?_
  refine PW.aload_n rfl rfl dX2_settleLawsOf_17 ?_
  refine PW.gI hS.1 (by have := he; omega) (skR0 he) (by first | exact hX.1 | exact hhi _ (Nat.le_refl _) hj | exact rfl) fX2_62 dX2_settleLawsOf_18 ?_
  refine PW.ishl1 (by omega) dX2_settleLawsOf_21 ?_
  refine PW.icmp_geN 49 (by decide) (by first | omega | (split <;> omega)) (by first | omega | (split <;> omega)) dX2_settleLawsOf_22 (fun hc22 => ?_) (fun hc22 => by exfalso; omega)
  refine PW.aload_n rfl rfl dX2_settleLawsOf_49 ?_
  refine PW.gR hS.1 (by have := he; omega) (skR18 he) fX2_59 dX2_settleLawsOf_50 ?_
  refine PW.iload_n rfl rfl dX2_settleLawsOf_53 ?_
  refine PW.iload_n rfl rfl dX2_settleLawsOf_54 ?_
  refine PW.uI hS (by have := he; omega) (akR22 he) (by exact rfl) ⟨by omega, by decide⟩ dX2_settleLawsOf_55 (fun hS hw55 => ?_)
  refine PW.iconst (v := nI 0) (by decide) dX2_settleLawsOf_56 ?_
  refine PW.istore (by decide) dX2_settleLawsOf_57 (?_ : PW _ _ _ _ [(0, _), (1, _), (2, _), (3, _), (4, _)] _ _ _)
  exact h59 _ hS (Ag.wI (fun h => h.2 rfl)) (fun i => iv_wI_ne (by omega)) hw55
end XLX
section XLY
variable {b s : Nat} {sc : pw_E} {mem : pw_M} {R : DR} {e : Nat}
set_option maxHeartbeats 4000000 in
theorem x_settleLaws (hS : St b s sc mem) (he : e = 49 ∨ e = 72) (hX : XD mem e R) (hD : Dat R) :
    Ret 4 0 0 mX2_settleLaws [.ref e] mem (fun u m1 => u = none ∧ St b s sc m1 ∧ Ag (fun q => q ≠ e + 21 ∧ q ≠ e + 22) mem m1 ∧ XL m1 e R) := by
  have h6 := hD.1
  refine Ret.of (by decide) (Nat.le_of_ble_eq_true rfl) fun l G => ?_
  show PW _ _ _ _ [(0, _)] _ _ _
  refine PW.aload_n rfl rfl dX2_settleLaws_0 ?_
  refine PW.gR hS.1 (by have := he; omega) (skR17 he) fX2_56 dX2_settleLaws_1 ?_
  refine PW.iconst (v := nI 0) (by decide) dX2_settleLaws_4 ?_
  refine PW.dS _ kX2_72 (j_fill hS (r := e + 21) (by omega) (akR21 he) (nI 0)) rfl rfl (Nat.le_of_ble_eq_true rfl) ⟨by decide, by decide⟩ ⟨Nat.zero_le _, Nat.zero_le _⟩ dX2_settleLaws_5 (fun v m1 q => ?_)
  obtain ⟨rfl, hS, hA, hv⟩ := q
  refine PW.iconst (v := nI 0) (by decide) dX2_settleLaws_8 ?_
  refine PW.istore_n rfl (by decide) dX2_settleLaws_9 (?_ : PW _ _ _ _ [(0, _), (1, _)] _ _ _)
  skip
  refine PW.loop (I := fun j m => St b s sc m ∧ Ag (fun q => q ≠ e + 21 ∧ q ≠ e + 22) mem m ∧ (∀ k, k < R 0 0 → iv m (e + 21) k = nI (letsN R k j)) ∧ ∀ i, i < j → iv m (e + 22) i = nI (fixN R i (2 ^ R 0 0))) (fun j _ => [(0, .ref e), (1, .int (nI j))]) (fun _ m => m) 6 (fun j m hj hI ih => ?_) (fun m hI => ?_) m1 ⟨hS, hA.mono (fun q h => h.1), fun k hk => hv k (by omega), fun i hi => absurd hi (Nat.not_lt_zero _)⟩
  · obtain ⟨hS, hAg, hlet, hfix⟩ := hI
    have hX := hX.ag hAg (fun q h1 h2 => ⟨by omega, by omega⟩)
    refine PW.iload_n rfl rfl dX2_settleLaws_10 ?_
    refine PW.bipush (v := nI 6) (by decide) dX2_settleLaws_11 ?_
    refine PW.icmp_geN 27 (by decide) (by first | omega | (split <;> omega)) (by first | omega | (split <;> omega)) dX2_settleLaws_13 (fun hc13 => by exfalso; omega) (fun hc13 => ?_)
    refine PW.aload_n rfl rfl dX2_settleLaws_16 ?_
    refine PW.iload_n rfl rfl dX2_settleLaws_17 ?_
    refine PW.dV (ci := 2) (j := 0) _ hS.1 (by have := he; omega) (skR0 he) kX2_99 (x_settleLawsOf hS he hX hD hj hlet) rfl rfl (Nat.le_of_ble_eq_true rfl) rfl ⟨by decide, by decide⟩ ⟨Nat.zero_le _, Nat.zero_le _⟩ dX2_settleLaws_18 (fun v m1 q => ?_)
    obtain ⟨rfl, hS, hA2, hl2, hf2⟩ := q
    refine PW.iincN rfl (by decide) dX2_settleLaws_21 (?_ : PW _ _ _ _ [(0, _), (1, _)] _ _ _)
    refine PW.goto 10 (by decide) dX2_settleLaws_24 ?_
    refine ih _ ⟨hS, hAg.tr hA2, hl2, fun i hi => ?_⟩
    rw [hf2]
    by_cases e1 : i = j
    · rw [if_pos e1, e1]
    · rw [if_neg e1]; exact hfix i (by omega)
  · obtain ⟨hS, hAg, hlet, hfix⟩ := hI
    refine PW.iload_n rfl rfl dX2_settleLaws_10 ?_
    refine PW.bipush (v := nI 6) (by decide) dX2_settleLaws_11 ?_
    refine PW.icmp_geN 27 (by decide) (by first | omega | (split <;> omega)) (by first | omega | (split <;> omega)) dX2_settleLaws_13 (fun hc13 => ?_) (fun hc13 => by exfalso; omega)
    refine PW.vret rfl (Nat.le_refl _) (Nat.le_refl _) dX2_settleLaws_27 ?_
    exact ⟨rfl, hS, hAg, hlet, hfix⟩
end XLY
