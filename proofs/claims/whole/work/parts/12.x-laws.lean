/-! ===== the class: Arrays.fill, laws ===== -/
section XLW
variable {b s : Nat} {sc : pw_E} {mem : pw_M} {R : DR} {e : Nat}
set_option maxHeartbeats 4000000 in
theorem j_fill (hS : St b s sc mem) {r : Nat} (h9 : 9 ≤ r) (hr : SK[r - 9]? = some (.inl (0, 0, 6, []))) (x : Int32) : Ret 0 0 0 mJ7_fill_53178 [.ref r, .int x] mem (fun u m1 => u = none ∧ St b s sc m1 ∧ Ag (fun q => q ≠ r) mem m1 ∧ ∀ i, i < 6 → iv m1 r i = x) := by
  refine Ret.of (by decide) (Nat.le_of_ble_eq_true rfl) fun l G => ?_
  show PW _ _ _ _ [(0, _), (1, _)] _ _ _
  refine PW.iconst (v := nI 0) (by decide) dJ7_fill_53178_0 ?_
  refine PW.istore_n rfl (by decide) dJ7_fill_53178_1 (?_ : PW _ _ _ _ [(0, _), (1, _), (2, _)] _ _ _)
  refine PW.aload_n rfl rfl dJ7_fill_53178_2 ?_
  refine PW.alen (hS.1.arr h9 hr) h9 (fun _ => rfl) dJ7_fill_53178_3 ?_
  refine PW.istore_n rfl (by decide) dJ7_fill_53178_4 (?_ : PW _ _ _ _ [(0, _), (1, _), (2, _), (3, _)] _ _ _)
  refine PW.loop (I := fun j m => St b s sc m ∧ Ag (fun q => q ≠ r) mem m ∧ ∀ i, i < j → iv m r i = x) (fun j _ => [(0, .ref r), (1, .int x), (2, .int (nI j)), (3, .int (nI 6))]) (fun _ m => m) 6 (fun j m hj hI ih => ?_) (fun m hI => ?_) mem ⟨hS, Ag.rf, fun i hi => absurd hi (Nat.not_lt_zero _)⟩
  · obtain ⟨hS, hA, hv⟩ := hI
    refine PW.iload_n rfl rfl dJ7_fill_53178_5 ?_
    refine PW.iload_n rfl rfl dJ7_fill_53178_6 ?_
    refine PW.icmp_geN 20 (by decide) (by first | omega | (split <;> omega)) (by first | omega | (split <;> omega)) dJ7_fill_53178_7 (fun hc7 => ?_) (fun hc7 => ?_)
    · exfalso; omega
    · refine PW.aload_n rfl rfl dJ7_fill_53178_10 ?_
      refine PW.iload_n rfl rfl dJ7_fill_53178_11 ?_
      refine PW.iload_n rfl rfl dJ7_fill_53178_12 ?_
      refine PW.uI hS h9 hr (by exact rfl) ⟨by omega, by decide⟩ dJ7_fill_53178_13 (fun hS hw13 => ?_)
      refine PW.iincN rfl (by decide) dJ7_fill_53178_14 (?_ : PW _ _ _ _ [(0, _), (1, _), (2, _), (3, _)] _ _ _)
      refine PW.goto 5 (by decide) dJ7_fill_53178_17 ?_
      refine ih _ ⟨hS, hA.tr (Ag.wI (fun h => h rfl)), fun i hi => ?_⟩
      rw [hw13]
      by_cases e : i = j
      · rw [if_pos e]
      · rw [if_neg e]; exact hv i (by omega)
  · obtain ⟨hS, hA, hv⟩ := hI
    refine PW.iload_n rfl rfl dJ7_fill_53178_5 ?_
    refine PW.iload_n rfl rfl dJ7_fill_53178_6 ?_
    refine PW.icmp_geN 20 (by decide) (by first | omega | (split <;> omega)) (by first | omega | (split <;> omega)) dJ7_fill_53178_7 (fun hc7 => ?_) (fun hc7 => ?_)
    · refine PW.vret rfl (Nat.le_refl _) (Nat.le_refl _) dJ7_fill_53178_20 ?_
      exact ⟨rfl, hS, hA, hv⟩
    · exfalso; omega
set_option maxHeartbeats 4000000 in
theorem x_opens (hS : St b s sc mem) (he : e = 49 ∨ e = 72) (hX : XD mem e R) (hL : XL mem e R) (hD : Dat R) {a c t : Nat} (ha : a < R 0 0) (hc : c < R 0 0) (ht : t < 6) : Rf 1 mX2_opens [.ref e, .int (nI a), .int (nI c), .int (nI t)] mem (some (.int (bI ((R 9 a).testBit c && letN R c t)))) mem := by
  have h6 := hD.1
  have h9 := (hD.2.2.2.2.1 a (by omega)).2.2.1
  have hp := pow6 h6
  have hl := letsN_lt R c 6
  have hb := letsN_bit R c 6 t
  rw [decide_eq_true ht, Bool.true_and] at hb
  refine Ret.of (by decide) (Nat.le_of_ble_eq_true rfl) fun l G => ?_
  show PW _ _ _ _ [(0, _), (1, _), (2, _), (3, _)] _ _ _
  refine PW.aload_n rfl rfl dX2_opens_0 ?_
  refine PW.gR hS.1 (by have := he; omega) (skR9 he) fX2_30 dX2_opens_1 ?_
  refine PW.iload_n rfl rfl dX2_opens_4 ?_
  refine PW.aI hS.1 (by have := he; omega) (akR7 he) (by exact rfl) ⟨by omega, by decide⟩ (by first | exact (hX.2.2.2.2.1 _ (by omega)).2.2.1 | exact hL.1 _ hc | exact rfl) dX2_opens_5 ?_
  refine PW.iload_n rfl rfl dX2_opens_6 ?_
  refine PW.cSN _ kX2_107 (x_has (a := R 9 a) (k := c) (by omega) (by omega) mem) rfl rfl (by decide) ⟨by decide, by decide⟩ ⟨Nat.zero_le _, Nat.zero_le _⟩ dX2_opens_7 ?_
  refine PW.if_eqB 30 (by decide) dX2_opens_10 (fun hc10 => ?_) (fun hc10 => ?_)
  · refine PW.iconst (v := nI 0) (by decide) dX2_opens_30 ?_
    refine PW.zret rfl (by first | exact bI_nar _ | rfl) (Nat.le_refl _) (Nat.le_refl _) dX2_opens_31 ?_
    first | exact ⟨by rw [← hb, hc10, hc23]; rfl, rfl⟩ | exact ⟨by rw [hc10]; rfl, rfl⟩
  · refine PW.aload_n rfl rfl dX2_opens_13 ?_
    refine PW.gR hS.1 (by have := he; omega) (skR17 he) fX2_56 dX2_opens_14 ?_
    refine PW.iload_n rfl rfl dX2_opens_17 ?_
    refine PW.aI hS.1 (by have := he; omega) (akR21 he) (by exact rfl) ⟨by omega, by decide⟩ (by first | exact (hX.2.2.2.2.1 _ (by omega)).2.2.1 | exact hL.1 _ hc | exact rfl) dX2_opens_18 ?_
    refine PW.iload_n rfl rfl dX2_opens_19 ?_
    refine PW.cSN _ kX2_107 (x_has (a := letsN R c 6) (k := t) (by omega) (by omega) mem) rfl rfl (by decide) ⟨by decide, by decide⟩ ⟨Nat.zero_le _, Nat.zero_le _⟩ dX2_opens_20 ?_
    refine PW.if_eqB 30 (by decide) dX2_opens_23 (fun hc23 => ?_) (fun hc23 => ?_)
    · refine PW.iconst (v := nI 0) (by decide) dX2_opens_30 ?_
      refine PW.zret rfl (by first | exact bI_nar _ | rfl) (Nat.le_refl _) (Nat.le_refl _) dX2_opens_31 ?_
      first | exact ⟨by rw [← hb, hc10, hc23]; rfl, rfl⟩ | exact ⟨by rw [hc10]; rfl, rfl⟩
    · refine PW.iconst (v := nI 1) (by decide) dX2_opens_26 ?_
      refine PW.goto 31 (by decide) dX2_opens_27 ?_
      refine PW.zret rfl (by first | exact bI_nar _ | rfl) (Nat.le_refl _) (Nat.le_refl _) dX2_opens_31 ?_
      first | exact ⟨by rw [← hb, hc10, hc23]; rfl, rfl⟩ | exact ⟨by rw [hc10]; rfl, rfl⟩
set_option maxHeartbeats 4000000 in
theorem x_price (hS : St b s sc mem) (he : e = 49 ∨ e = 72) (hX : XD mem e R) (hD : Dat R) {a c t : Nat} (ha : a < R 0 0) (hc : c < R 0 0) (ht : t < 6) : Rf 1 mX2_price [.ref e, .int (nI a), .int (nI c), .int (nI t)] mem (some (.int (nI (if (R 12 (6 * a + c)).testBit t then 0 else R 5 c)))) mem := by
  have h6 := hD.1
  have h64 := hD.2.2.2.2.2.1 a c (by omega) (by omega)
  refine Ret.of (by decide) (Nat.le_of_ble_eq_true rfl) fun l G => ?_
  show PW _ _ _ _ [(0, _), (1, _), (2, _), (3, _)] _ _ _
  refine PW.aload_n rfl rfl dX2_price_0 ?_
  refine PW.gR hS.1 (by have := he; omega) (skR12 he) fX2_41 dX2_price_1 ?_
  refine PW.iload_n rfl rfl dX2_price_4 ?_
  refine PW.aQ hS.1 (by have := he; omega) (akR10 he) (fun _ => rfl) rfl (by exact rfl) ⟨by omega, by decide⟩ (akRq (by omega)) dX2_price_5 ?_
  refine PW.iload_n rfl rfl dX2_price_6 ?_
  refine PW.aI hS.1 (by have := he; omega) (akRt he (by omega)) (by exact rfl) ⟨by omega, by decide⟩ (by first | exact (hX.2.2.2.2.2.1 _ _ (by omega) (by omega)) | exact (hX.2.2.2.1 _ hc).2.2.1 | exact rfl) dX2_price_7 ?_
  refine PW.iload_n rfl rfl dX2_price_8 ?_
  refine PW.cSN _ kX2_107 (x_has (a := R 12 (6 * a + c)) (k := t) (by omega) (by omega) mem) rfl rfl (by decide) ⟨by decide, by decide⟩ ⟨Nat.zero_le _, Nat.zero_le _⟩ dX2_price_9 ?_
  refine PW.if_eqB 19 (by decide) dX2_price_12 (fun hc12 => ?_) (fun hc12 => ?_)
  · refine PW.aload_n rfl rfl dX2_price_19 ?_
    refine PW.gR hS.1 (by have := he; omega) (skR5 he) fX2_18 dX2_price_20 ?_
    refine PW.iload_n rfl rfl dX2_price_23 ?_
    refine PW.aI hS.1 (by have := he; omega) (akR3 he) (by exact rfl) ⟨by omega, by decide⟩ (by first | exact (hX.2.2.2.2.2.1 _ _ (by omega) (by omega)) | exact (hX.2.2.2.1 _ hc).2.2.1 | exact rfl) dX2_price_24 ?_
    refine PW.iret rfl (Nat.le_refl _) (Nat.le_refl _) dX2_price_25 ?_
    exact ⟨by rw [hc12]; rfl, rfl⟩
  · refine PW.iconst (v := nI 0) (by decide) dX2_price_15 ?_
    refine PW.goto 25 (by decide) dX2_price_16 ?_
    refine PW.iret rfl (Nat.le_refl _) (Nat.le_refl _) dX2_price_25 ?_
    exact ⟨by rw [hc12]; rfl, rfl⟩
end XLW
