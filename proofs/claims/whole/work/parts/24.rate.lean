/-! ===== kinds: class and model ===== -/
/-- only the trace of the class changed, to z; of the model -/
def Tx (b s : Nat) (sc : pw_E) (mem m : pw_M) (z : Int64) : Prop := St b s sc m ∧ Ag (fun q => q ≠ 9) mem m ∧ fl m 9 11 = z
def Tm (b s : Nat) (sc : pw_E) (mem m : pw_M) (z : Int64) : Prop := St b s sc m ∧ Ag (fun q => q ≠ 95) mem m ∧ (∀ j, j ≠ 14 → fv m 95 j = fv mem 95 j) ∧ fl m 95 14 = z
theorem Tm.md {b s : Nat} {sc : pw_E} {mem m : pw_M} {z : Int64} {R : DR} (h : Tm b s sc mem m z) (hM : MD mem R) : MD m R := hM.ag2 h.2.1 (fi_fv (h.2.2.1 3 (by decide))) (fi_fv (h.2.2.1 10 (by decide))) (fi_fv (h.2.2.1 6 (by decide))) (fun q h1 h2 => by omega)
theorem Tm.wF {b s : Nat} {sc : pw_E} {mem : pw_M} {z : Int64} (hS : St b s sc (wF mem 95 14 (.long z))) (h : fl (wF mem 95 14 (.long z)) 95 14 = z) : Tm b s sc mem (wF mem 95 14 (.long z)) z := ⟨hS, Ag.wF (fun h => h rfl), fun j hj => fv_wF_ne (Or.inr hj), h⟩
theorem Tx.wF {b s : Nat} {sc : pw_E} {mem : pw_M} {z : Int64} (hS : St b s sc (wF mem 9 11 (.long z))) (h : fl (wF mem 9 11 (.long z)) 9 11 = z) : Tx b s sc mem (wF mem 9 11 (.long z)) z := ⟨hS, Ag.wF (fun h => h rfl), h⟩
theorem Tm.tr {b s : Nat} {sc : pw_E} {mem m m2 : pw_M} {z z2 : Int64} (h : Tm b s sc mem m z) (h2 : Tm b s sc m m2 z2) : Tm b s sc mem m2 z2 := ⟨h2.1, h.2.1.tr h2.2.1, fun j hj => (h2.2.2.1 j hj).trans (h.2.2.1 j hj), h2.2.2.2⟩
theorem Tx.tr {b s : Nat} {sc : pw_E} {mem m m2 : pw_M} {z z2 : Int64} (h : Tx b s sc mem m z) (h2 : Tx b s sc m m2 z2) : Tx b s sc mem m2 z2 := ⟨h2.1, h.2.1.tr h2.2.1, h2.2.2⟩
theorem Tx.xd {b s : Nat} {sc : pw_E} {mem m : pw_M} {z : Int64} {R : DR} (h : Tx b s sc mem m z) (hX : XD mem b R) : XD m b R := hX.ag h.2.1 (fun q h1 _ => by have := h.1.b; omega)
def rateS (R : DR) (w : Nat → Nat) (i k : Int32) : Int32 := if inR k (R 0 0) then (if inR i 6 then [nI (fillN R w (cl k) (R 1 0)), nI (fillN R w (cl k) (R 1 0)) + nI (R 3 (cl k)), nI (fillN R w (cl k) (R 1 0)) - nI (R 5 (cl k)), nI 2 * (nI (fillN R w (cl k) (R 1 0)) + nI (R 3 (cl k))), (nI (fillN R w (cl k) (R 1 0)) - nI (R 5 (cl k))) + nI (cl k), nI (fillN R w (cl k) (R 1 0)) + nI (depN R 6 (R 6 (cl k)))].getD (cl i) 0 else -1000000) else -1000000
def rateT (n : Nat) (i k : Int32) (z : Int64) : Int64 := if inR k n then (if inR i 6 then [z + 1, z + 10 + 1, z + 100 + 1, z + 1000 + 10 + 1, z + 10000 + 100 + 1, z + 100000 + 1].getD (cl i) 0 else z) else z
section RATE
variable {b s : Nat} {sc : pw_E} {mem : pw_M} {R : DR} {w : Nat → Nat} {p : Int32} {d : Nat} {e n K T L : Nat} {f : Nat → Nat} {z : Int64}
set_option maxHeartbeats 4000000 in
theorem x_asPocket (hS : St b s sc mem) (hX : XD mem b R) (hD : Dat R) (hN : XN mem 13 (R 1 0) w p d) (hw : ∀ t, t < R 1 0 → w t < R 0 0) {k : Nat} (hk : k < R 0 0) (hz : fl mem 9 11 = z) : Ret 1 0 0 mX5_asPocket [.ref 9, .int (nI k)] mem (fun u m1 => u = some (.int (nI (fillN R w k (R 1 0)))) ∧ Tx b s sc mem m1 (z + 1)) := by
  have h6 := hD.1
  refine Ret.of (by decide) (Nat.le_of_ble_eq_true rfl) fun l G => ?_
  show PW _ _ _ _ [(0, _), (1, _)] _ _ _
  refine PW.aload_n rfl rfl dX5_asPocket_0 ?_
  refine PW.dup rfl dX5_asPocket_1 ?_
  refine PW.gL hS.1 (by decide) rfl (hz) fX5_260 dX5_asPocket_2 ?_
  refine PW.lconst (v := 1) (by decide) dX5_asPocket_5 ?_
  refine PW.ladd dX5_asPocket_6 ?_
  refine PW.tL hS (by decide) rfl pX5_260 dX5_asPocket_7 (fun hS hw7 => ?_)
  have ht := Tx.wF hS hw7
  refine PW.aload_n rfl rfl dX5_asPocket_10 ?_
  refine PW.iload_n rfl rfl dX5_asPocket_11 ?_
  refine PW.cV (ci := 5) (j := 0) _ hS.1 (by decide) rfl kX5_109 (x_filled hS (ht.xd hX) hD (hN.ag ht.2.1 (by decide) (by decide)) hw (by omega)) rfl rfl (Nat.le_of_ble_eq_true rfl) rfl ⟨by decide, by decide⟩ ⟨Nat.zero_le _, Nat.zero_le _⟩ dX5_asPocket_12 ?_
  refine PW.iret rfl (Nat.le_refl _) (Nat.le_refl _) dX5_asPocket_15 ?_
  exact ⟨rfl, ht⟩
set_option maxHeartbeats 4000000 in
theorem x_asCoat (hS : St b s sc mem) (hX : XD mem b R) (hD : Dat R) (hN : XN mem 13 (R 1 0) w p d) (hw : ∀ t, t < R 1 0 → w t < R 0 0) {k : Nat} (hk : k < R 0 0) (hz : fl mem 9 11 = z) : Ret 2 0 0 mX5_asCoat [.ref 9, .int (nI k)] mem (fun u m1 => u = some (.int (nI (fillN R w k (R 1 0)) + nI (R 3 k))) ∧ Tx b s sc mem m1 (z + 10 + 1)) := by
  have h6 := hD.1
  refine Ret.of (by decide) (Nat.le_of_ble_eq_true rfl) fun l G => ?_
  show PW _ _ _ _ [(0, _), (1, _)] _ _ _
  refine PW.aload_n rfl rfl dX5_asCoat_0 ?_
  refine PW.dup rfl dX5_asCoat_1 ?_
  refine PW.gL hS.1 (by decide) rfl (hz) fX5_260 dX5_asCoat_2 ?_
  refine PW.ldc2 cX5_284 dX5_asCoat_5 ?_
  refine PW.ladd dX5_asCoat_8 ?_
  refine PW.tL hS (by decide) rfl pX5_260 dX5_asCoat_9 (fun hS hw9 => ?_)
  have ht := Tx.wF hS hw9
  refine PW.aload_n rfl rfl dX5_asCoat_12 ?_
  refine PW.iload_n rfl rfl dX5_asCoat_13 ?_
  refine PW.dV (ci := 5) (j := 0) _ hS.1 (by decide) rfl kX5_236 (x_asPocket hS (ht.xd hX) hD (hN.ag ht.2.1 (by decide) (by decide)) hw hk ht.2.2) rfl rfl (Nat.le_of_ble_eq_true rfl) rfl ⟨by decide, by decide⟩ ⟨Nat.zero_le _, Nat.zero_le _⟩ dX5_asCoat_14 (fun v m1 q => ?_)
  obtain ⟨rfl, h2⟩ := q
  have hT2 := ht.tr h2
  have hS := hT2.1
  refine PW.aload_n rfl rfl dX5_asCoat_17 ?_
  refine PW.gV hS.1 (by decide) rfl hS.2.1 fX5_58 dX5_asCoat_18 ?_
  refine PW.gR hS.1 (by have := hS.b; omega) (skR3 hS.b) fX5_97 dX5_asCoat_21 ?_
  refine PW.iload_n rfl rfl dX5_asCoat_24 ?_
  refine PW.aI hS.1 (by have := hS.b; omega) (akR1 hS.b) (by exact rfl) ⟨by omega, by decide⟩ (((hT2.xd hX).2.2.2.1 k hk).1) dX5_asCoat_25 ?_
  refine PW.iadd dX5_asCoat_26 ?_
  refine PW.iret rfl (Nat.le_refl _) (Nat.le_refl _) dX5_asCoat_27 ?_
  exact ⟨rfl, hT2⟩
set_option maxHeartbeats 4000000 in
theorem x_asPurse (hS : St b s sc mem) (hX : XD mem b R) (hD : Dat R) (hN : XN mem 13 (R 1 0) w p d) (hw : ∀ t, t < R 1 0 → w t < R 0 0) {k : Nat} (hk : k < R 0 0) (hz : fl mem 9 11 = z) : Ret 2 0 0 mX5_asPurse [.ref 9, .int (nI k)] mem (fun u m1 => u = some (.int (nI (fillN R w k (R 1 0)) - nI (R 5 k))) ∧ Tx b s sc mem m1 (z + 100 + 1)) := by
  have h6 := hD.1
  refine Ret.of (by decide) (Nat.le_of_ble_eq_true rfl) fun l G => ?_
  show PW _ _ _ _ [(0, _), (1, _)] _ _ _
  refine PW.aload_n rfl rfl dX5_asPurse_0 ?_
  refine PW.dup rfl dX5_asPurse_1 ?_
  refine PW.gL hS.1 (by decide) rfl (hz) fX5_260 dX5_asPurse_2 ?_
  refine PW.ldc2 cX5_286 dX5_asPurse_5 ?_
  refine PW.ladd dX5_asPurse_8 ?_
  refine PW.tL hS (by decide) rfl pX5_260 dX5_asPurse_9 (fun hS hw9 => ?_)
  have ht := Tx.wF hS hw9
  refine PW.aload_n rfl rfl dX5_asPurse_12 ?_
  refine PW.iload_n rfl rfl dX5_asPurse_13 ?_
  refine PW.dV (ci := 5) (j := 0) _ hS.1 (by decide) rfl kX5_236 (x_asPocket hS (ht.xd hX) hD (hN.ag ht.2.1 (by decide) (by decide)) hw hk ht.2.2) rfl rfl (Nat.le_of_ble_eq_true rfl) rfl ⟨by decide, by decide⟩ ⟨Nat.zero_le _, Nat.zero_le _⟩ dX5_asPurse_14 (fun v m1 q => ?_)
  obtain ⟨rfl, h2⟩ := q
  have hT2 := ht.tr h2
  have hS := hT2.1
  refine PW.aload_n rfl rfl dX5_asPurse_17 ?_
  refine PW.gV hS.1 (by decide) rfl hS.2.1 fX5_58 dX5_asPurse_18 ?_
  refine PW.gR hS.1 (by have := hS.b; omega) (skR5 hS.b) fX5_103 dX5_asPurse_21 ?_
  refine PW.iload_n rfl rfl dX5_asPurse_24 ?_
  refine PW.aI hS.1 (by have := hS.b; omega) (akR3 hS.b) (by exact rfl) ⟨by omega, by decide⟩ (((hT2.xd hX).2.2.2.1 k hk).2.2.1) dX5_asPurse_25 ?_
  refine PW.isub dX5_asPurse_26 ?_
  refine PW.iret rfl (Nat.le_refl _) (Nat.le_refl _) dX5_asPurse_27 ?_
  exact ⟨rfl, hT2⟩
set_option maxHeartbeats 4000000 in
theorem x_asLeague (hS : St b s sc mem) (hX : XD mem b R) (hD : Dat R) (hN : XN mem 13 (R 1 0) w p d) (hw : ∀ t, t < R 1 0 → w t < R 0 0) {k : Nat} (hk : k < R 0 0) (hz : fl mem 9 11 = z) : Ret 3 0 0 mX5_asLeague [.ref 9, .int (nI k)] mem (fun u m1 => u = some (.int (nI 2 * (nI (fillN R w k (R 1 0)) + nI (R 3 k)))) ∧ Tx b s sc mem m1 (z + 1000 + 10 + 1)) := by
  have h6 := hD.1
  refine Ret.of (by decide) (Nat.le_of_ble_eq_true rfl) fun l G => ?_
  show PW _ _ _ _ [(0, _), (1, _)] _ _ _
  refine PW.aload_n rfl rfl dX5_asLeague_0 ?_
  refine PW.dup rfl dX5_asLeague_1 ?_
  refine PW.gL hS.1 (by decide) rfl (hz) fX5_260 dX5_asLeague_2 ?_
  refine PW.ldc2 cX5_288 dX5_asLeague_5 ?_
  refine PW.ladd dX5_asLeague_8 ?_
  refine PW.tL hS (by decide) rfl pX5_260 dX5_asLeague_9 (fun hS hw9 => ?_)
  have ht := Tx.wF hS hw9
  refine PW.iconst (v := nI 2) (by decide) dX5_asLeague_12 ?_
  refine PW.aload_n rfl rfl dX5_asLeague_13 ?_
  refine PW.iload_n rfl rfl dX5_asLeague_14 ?_
  refine PW.dV (ci := 5) (j := 0) _ hS.1 (by decide) rfl kX5_239 (x_asCoat hS (ht.xd hX) hD (hN.ag ht.2.1 (by decide) (by decide)) hw hk ht.2.2) rfl rfl (Nat.le_of_ble_eq_true rfl) rfl ⟨by decide, by decide⟩ ⟨Nat.zero_le _, Nat.zero_le _⟩ dX5_asLeague_15 (fun v m1 q => ?_)
  obtain ⟨rfl, h2⟩ := q
  refine PW.imul dX5_asLeague_18 ?_
  refine PW.iret rfl (Nat.le_refl _) (Nat.le_refl _) dX5_asLeague_19 ?_
  exact ⟨rfl, ht.tr h2⟩
set_option maxHeartbeats 4000000 in
theorem x_asBeggar (hS : St b s sc mem) (hX : XD mem b R) (hD : Dat R) (hN : XN mem 13 (R 1 0) w p d) (hw : ∀ t, t < R 1 0 → w t < R 0 0) {k : Nat} (hk : k < R 0 0) (hz : fl mem 9 11 = z) : Ret 3 0 0 mX5_asBeggar [.ref 9, .int (nI k)] mem (fun u m1 => u = some (.int (nI (fillN R w k (R 1 0)) - nI (R 5 k) + nI k)) ∧ Tx b s sc mem m1 (z + 10000 + 100 + 1)) := by
  have h6 := hD.1
  refine Ret.of (by decide) (Nat.le_of_ble_eq_true rfl) fun l G => ?_
  show PW _ _ _ _ [(0, _), (1, _)] _ _ _
  refine PW.aload_n rfl rfl dX5_asBeggar_0 ?_
  refine PW.dup rfl dX5_asBeggar_1 ?_
  refine PW.gL hS.1 (by decide) rfl (hz) fX5_260 dX5_asBeggar_2 ?_
  refine PW.ldc2 cX5_290 dX5_asBeggar_5 ?_
  refine PW.ladd dX5_asBeggar_8 ?_
  refine PW.tL hS (by decide) rfl pX5_260 dX5_asBeggar_9 (fun hS hw9 => ?_)
  have ht := Tx.wF hS hw9
  refine PW.aload_n rfl rfl dX5_asBeggar_12 ?_
  refine PW.iload_n rfl rfl dX5_asBeggar_13 ?_
  refine PW.dV (ci := 5) (j := 0) _ hS.1 (by decide) rfl kX5_242 (x_asPurse hS (ht.xd hX) hD (hN.ag ht.2.1 (by decide) (by decide)) hw hk ht.2.2) rfl rfl (Nat.le_of_ble_eq_true rfl) rfl ⟨by decide, by decide⟩ ⟨Nat.zero_le _, Nat.zero_le _⟩ dX5_asBeggar_14 (fun v m1 q => ?_)
  obtain ⟨rfl, h2⟩ := q
  refine PW.iload_n rfl rfl dX5_asBeggar_17 ?_
  refine PW.iadd dX5_asBeggar_18 ?_
  refine PW.iret rfl (Nat.le_refl _) (Nat.le_refl _) dX5_asBeggar_19 ?_
  exact ⟨rfl, ht.tr h2⟩
set_option maxHeartbeats 4000000 in
theorem x_asLining (hS : St b s sc mem) (hX : XD mem b R) (hD : Dat R) (hN : XN mem 13 (R 1 0) w p d) (hw : ∀ t, t < R 1 0 → w t < R 0 0) {k : Nat} (hk : k < R 0 0) (hz : fl mem 9 11 = z) : Ret 2 0 0 mX5_asLining [.ref 9, .int (nI k)] mem (fun u m1 => u = some (.int (nI (fillN R w k (R 1 0)) + nI (depN R 6 (R 6 k)))) ∧ Tx b s sc mem m1 (z + 100000 + 1)) := by
  have h6 := hD.1
  refine Ret.of (by decide) (Nat.le_of_ble_eq_true rfl) fun l G => ?_
  show PW _ _ _ _ [(0, _), (1, _)] _ _ _
  refine PW.aload_n rfl rfl dX5_asLining_0 ?_
  refine PW.dup rfl dX5_asLining_1 ?_
  refine PW.gL hS.1 (by decide) rfl (hz) fX5_260 dX5_asLining_2 ?_
  refine PW.ldc2 cX5_292 dX5_asLining_5 ?_
  refine PW.ladd dX5_asLining_8 ?_
  refine PW.tL hS (by decide) rfl pX5_260 dX5_asLining_9 (fun hS hw9 => ?_)
  have ht := Tx.wF hS hw9
  refine PW.aload_n rfl rfl dX5_asLining_12 ?_
  refine PW.iload_n rfl rfl dX5_asLining_13 ?_
  refine PW.dV (ci := 5) (j := 0) _ hS.1 (by decide) rfl kX5_236 (x_asPocket hS (ht.xd hX) hD (hN.ag ht.2.1 (by decide) (by decide)) hw hk ht.2.2) rfl rfl (Nat.le_of_ble_eq_true rfl) rfl ⟨by decide, by decide⟩ ⟨Nat.zero_le _, Nat.zero_le _⟩ dX5_asLining_14 (fun v m1 q => ?_)
  obtain ⟨rfl, h2⟩ := q
  have hT2 := ht.tr h2
  have hS := hT2.1
  refine PW.aload_n rfl rfl dX5_asLining_17 ?_
  refine PW.gV hS.1 (by decide) rfl hS.2.1 fX5_58 dX5_asLining_18 ?_
  refine PW.iload_n rfl rfl dX5_asLining_21 ?_
  refine PW.cV (ci := 2) (j := 0) _ hS.1 (by have := hS.b; omega) (skR0 hS.b) kX5_113 (x_depth hS hS.b (hT2.xd hX) hD hk) rfl rfl (Nat.le_of_ble_eq_true rfl) rfl ⟨by decide, by decide⟩ ⟨Nat.zero_le _, Nat.zero_le _⟩ dX5_asLining_22 ?_
  refine PW.iadd dX5_asLining_25 ?_
  refine PW.iret rfl (Nat.le_refl _) (Nat.le_refl _) dX5_asLining_26 ?_
  exact ⟨rfl, hT2⟩
set_option maxHeartbeats 4000000 in
theorem x_rate (hS : St b s sc mem) (hX : XD mem b R) (hD : Dat R) (hN : XN mem 13 (R 1 0) w p d) (hw : ∀ t, t < R 1 0 → w t < R 0 0) (hz : fl mem 9 11 = z) (i k : Int32) : Ret 4 0 0 mX5_rate [.ref 9, .int i, .int k] mem (fun u m1 => u = some (.int (rateS R w i k)) ∧ Tx b s sc mem m1 (rateT (R 0 0) i k z)) := by
  have h6 := hD.1
  have hid : Tx b s sc mem mem z := ⟨hS, Ag.rf, hz⟩
  by_cases hk : inR k (R 0 0) = true
  · obtain ⟨k, hk', rfl⟩ := inR_of hk
    by_cases hx : inR i 6 = true
    · have hv : rateS R w i (nI k) = [nI (fillN R w k (R 1 0)), nI (fillN R w k (R 1 0)) + nI (R 3 k), nI (fillN R w k (R 1 0)) - nI (R 5 k), nI 2 * (nI (fillN R w k (R 1 0)) + nI (R 3 k)), (nI (fillN R w k (R 1 0)) - nI (R 5 k)) + nI k, nI (fillN R w k (R 1 0)) + nI (depN R 6 (R 6 k))].getD (cl i) 0 := by rw [rateS, if_pos hk, if_pos hx, cl_nI (by omega)]
      have hv2 : rateT (R 0 0) i (nI k) z = [z + 1, z + 10 + 1, z + 100 + 1, z + 1000 + 10 + 1, z + 10000 + 100 + 1, z + 100000 + 1].getD (cl i) 0 := by rw [rateT, if_pos hk, if_pos hx]
      rw [hv, hv2]
      obtain ⟨j, hj, rfl⟩ := inR_of hx
      rw [cl_nI (by omega)]
      rcases (show j = 0 ∨ j = 1 ∨ j = 2 ∨ j = 3 ∨ j = 4 ∨ j = 5 by omega) with rfl | rfl | rfl | rfl | rfl | rfl
      · refine Ret.of (by decide) (Nat.le_of_ble_eq_true rfl) fun l G => ?_
        show PW _ _ _ _ [(0, _), (1, _), (2, _)] _ _ _
        refine PW.aload_n rfl rfl dX5_rate_0 ?_
        refine PW.iload_n rfl rfl dX5_rate_1 ?_
        refine PW.cV (ci := 5) (j := 0) _ hS.1 (by decide) rfl kX5_93 (x_isPocket hS hX hD _) rfl rfl (Nat.le_of_ble_eq_true rfl) rfl ⟨by decide, by decide⟩ ⟨Nat.zero_le _, Nat.zero_le _⟩ dX5_rate_2 ?_
        refine PW.if_neB 11 (by decide) dX5_rate_5 (fun hc5 => ?_) (fun hc5 => by (rw [hk] at hc5; cases hc5))
        refine PW.iload_n rfl rfl dX5_rate_11 ?_
        refine PW.tableIn (off := 40) 52 (by decide) (by decide) (by decide) (by decide) dX5_rate_12 ?_
        refine PW.aload_n rfl rfl dX5_rate_52 ?_
        refine PW.iload_n rfl rfl dX5_rate_53 ?_
        refine PW.dV (ci := 5) (j := 0) _ hS.1 (by decide) rfl kX5_236 (x_asPocket hS hX hD hN hw hk' hz) rfl rfl (Nat.le_of_ble_eq_true rfl) rfl ⟨by decide, by decide⟩ ⟨Nat.zero_le _, Nat.zero_le _⟩ dX5_rate_54 (fun v m1 q => ?_)
        obtain ⟨rfl, h2⟩ := q
        refine PW.iret rfl (Nat.le_refl _) (Nat.le_refl _) dX5_rate_57 ?_
        exact ⟨rfl, h2⟩
      · refine Ret.of (by decide) (Nat.le_of_ble_eq_true rfl) fun l G => ?_
        show PW _ _ _ _ [(0, _), (1, _), (2, _)] _ _ _
        refine PW.aload_n rfl rfl dX5_rate_0 ?_
        refine PW.iload_n rfl rfl dX5_rate_1 ?_
        refine PW.cV (ci := 5) (j := 0) _ hS.1 (by decide) rfl kX5_93 (x_isPocket hS hX hD _) rfl rfl (Nat.le_of_ble_eq_true rfl) rfl ⟨by decide, by decide⟩ ⟨Nat.zero_le _, Nat.zero_le _⟩ dX5_rate_2 ?_
        refine PW.if_neB 11 (by decide) dX5_rate_5 (fun hc5 => ?_) (fun hc5 => by (rw [hk] at hc5; cases hc5))
        refine PW.iload_n rfl rfl dX5_rate_11 ?_
        refine PW.tableIn (off := 46) 58 (by decide) (by decide) (by decide) (by decide) dX5_rate_12 ?_
        refine PW.aload_n rfl rfl dX5_rate_58 ?_
        refine PW.iload_n rfl rfl dX5_rate_59 ?_
        refine PW.dV (ci := 5) (j := 0) _ hS.1 (by decide) rfl kX5_239 (x_asCoat hS hX hD hN hw hk' hz) rfl rfl (Nat.le_of_ble_eq_true rfl) rfl ⟨by decide, by decide⟩ ⟨Nat.zero_le _, Nat.zero_le _⟩ dX5_rate_60 (fun v m1 q => ?_)
        obtain ⟨rfl, h2⟩ := q
        refine PW.iret rfl (Nat.le_refl _) (Nat.le_refl _) dX5_rate_63 ?_
        exact ⟨rfl, h2⟩
      · refine Ret.of (by decide) (Nat.le_of_ble_eq_true rfl) fun l G => ?_
        show PW _ _ _ _ [(0, _), (1, _), (2, _)] _ _ _
        refine PW.aload_n rfl rfl dX5_rate_0 ?_
        refine PW.iload_n rfl rfl dX5_rate_1 ?_
        refine PW.cV (ci := 5) (j := 0) _ hS.1 (by decide) rfl kX5_93 (x_isPocket hS hX hD _) rfl rfl (Nat.le_of_ble_eq_true rfl) rfl ⟨by decide, by decide⟩ ⟨Nat.zero_le _, Nat.zero_le _⟩ dX5_rate_2 ?_
        refine PW.if_neB 11 (by decide) dX5_rate_5 (fun hc5 => ?_) (fun hc5 => by (rw [hk] at hc5; cases hc5))
        refine PW.iload_n rfl rfl dX5_rate_11 ?_
        refine PW.tableIn (off := 52) 64 (by decide) (by decide) (by decide) (by decide) dX5_rate_12 ?_
        refine PW.aload_n rfl rfl dX5_rate_64 ?_
        refine PW.iload_n rfl rfl dX5_rate_65 ?_
        refine PW.dV (ci := 5) (j := 0) _ hS.1 (by decide) rfl kX5_242 (x_asPurse hS hX hD hN hw hk' hz) rfl rfl (Nat.le_of_ble_eq_true rfl) rfl ⟨by decide, by decide⟩ ⟨Nat.zero_le _, Nat.zero_le _⟩ dX5_rate_66 (fun v m1 q => ?_)
        obtain ⟨rfl, h2⟩ := q
        refine PW.iret rfl (Nat.le_refl _) (Nat.le_refl _) dX5_rate_69 ?_
        exact ⟨rfl, h2⟩
      · refine Ret.of (by decide) (Nat.le_of_ble_eq_true rfl) fun l G => ?_
        show PW _ _ _ _ [(0, _), (1, _), (2, _)] _ _ _
        refine PW.aload_n rfl rfl dX5_rate_0 ?_
        refine PW.iload_n rfl rfl dX5_rate_1 ?_
        refine PW.cV (ci := 5) (j := 0) _ hS.1 (by decide) rfl kX5_93 (x_isPocket hS hX hD _) rfl rfl (Nat.le_of_ble_eq_true rfl) rfl ⟨by decide, by decide⟩ ⟨Nat.zero_le _, Nat.zero_le _⟩ dX5_rate_2 ?_
        refine PW.if_neB 11 (by decide) dX5_rate_5 (fun hc5 => ?_) (fun hc5 => by (rw [hk] at hc5; cases hc5))
        refine PW.iload_n rfl rfl dX5_rate_11 ?_
        refine PW.tableIn (off := 58) 70 (by decide) (by decide) (by decide) (by decide) dX5_rate_12 ?_
        refine PW.aload_n rfl rfl dX5_rate_70 ?_
        refine PW.iload_n rfl rfl dX5_rate_71 ?_
        refine PW.dV (ci := 5) (j := 0) _ hS.1 (by decide) rfl kX5_245 (x_asLeague hS hX hD hN hw hk' hz) rfl rfl (Nat.le_of_ble_eq_true rfl) rfl ⟨by decide, by decide⟩ ⟨Nat.zero_le _, Nat.zero_le _⟩ dX5_rate_72 (fun v m1 q => ?_)
        obtain ⟨rfl, h2⟩ := q
        refine PW.iret rfl (Nat.le_refl _) (Nat.le_refl _) dX5_rate_75 ?_
        exact ⟨rfl, h2⟩
      · refine Ret.of (by decide) (Nat.le_of_ble_eq_true rfl) fun l G => ?_
        show PW _ _ _ _ [(0, _), (1, _), (2, _)] _ _ _
        refine PW.aload_n rfl rfl dX5_rate_0 ?_
        refine PW.iload_n rfl rfl dX5_rate_1 ?_
        refine PW.cV (ci := 5) (j := 0) _ hS.1 (by decide) rfl kX5_93 (x_isPocket hS hX hD _) rfl rfl (Nat.le_of_ble_eq_true rfl) rfl ⟨by decide, by decide⟩ ⟨Nat.zero_le _, Nat.zero_le _⟩ dX5_rate_2 ?_
        refine PW.if_neB 11 (by decide) dX5_rate_5 (fun hc5 => ?_) (fun hc5 => by (rw [hk] at hc5; cases hc5))
        refine PW.iload_n rfl rfl dX5_rate_11 ?_
        refine PW.tableIn (off := 64) 76 (by decide) (by decide) (by decide) (by decide) dX5_rate_12 ?_
        refine PW.aload_n rfl rfl dX5_rate_76 ?_
        refine PW.iload_n rfl rfl dX5_rate_77 ?_
        refine PW.dV (ci := 5) (j := 0) _ hS.1 (by decide) rfl kX5_248 (x_asBeggar hS hX hD hN hw hk' hz) rfl rfl (Nat.le_of_ble_eq_true rfl) rfl ⟨by decide, by decide⟩ ⟨Nat.zero_le _, Nat.zero_le _⟩ dX5_rate_78 (fun v m1 q => ?_)
        obtain ⟨rfl, h2⟩ := q
        refine PW.iret rfl (Nat.le_refl _) (Nat.le_refl _) dX5_rate_81 ?_
        exact ⟨rfl, h2⟩
      · refine Ret.of (by decide) (Nat.le_of_ble_eq_true rfl) fun l G => ?_
        show PW _ _ _ _ [(0, _), (1, _), (2, _)] _ _ _
        refine PW.aload_n rfl rfl dX5_rate_0 ?_
        refine PW.iload_n rfl rfl dX5_rate_1 ?_
        refine PW.cV (ci := 5) (j := 0) _ hS.1 (by decide) rfl kX5_93 (x_isPocket hS hX hD _) rfl rfl (Nat.le_of_ble_eq_true rfl) rfl ⟨by decide, by decide⟩ ⟨Nat.zero_le _, Nat.zero_le _⟩ dX5_rate_2 ?_
        refine PW.if_neB 11 (by decide) dX5_rate_5 (fun hc5 => ?_) (fun hc5 => by (rw [hk] at hc5; cases hc5))
        refine PW.iload_n rfl rfl dX5_rate_11 ?_
        refine PW.tableIn (off := 70) 82 (by decide) (by decide) (by decide) (by decide) dX5_rate_12 ?_
        refine PW.aload_n rfl rfl dX5_rate_82 ?_
        refine PW.iload_n rfl rfl dX5_rate_83 ?_
        refine PW.dV (ci := 5) (j := 0) _ hS.1 (by decide) rfl kX5_251 (x_asLining hS hX hD hN hw hk' hz) rfl rfl (Nat.le_of_ble_eq_true rfl) rfl ⟨by decide, by decide⟩ ⟨Nat.zero_le _, Nat.zero_le _⟩ dX5_rate_84 (fun v m1 q => ?_)
        obtain ⟨rfl, h2⟩ := q
        refine PW.iret rfl (Nat.le_refl _) (Nat.le_refl _) dX5_rate_87 ?_
        exact ⟨rfl, h2⟩
    · have hx' := Bool.eq_false_iff.mpr hx
      have hsw : i.toInt < 0 ∨ 5 < i.toInt := inR_out hx' rfl rfl
      refine Ret.of (by decide) (Nat.le_of_ble_eq_true rfl) fun l G => ?_
      show PW _ _ _ _ [(0, _), (1, _), (2, _)] _ _ _
      refine PW.aload_n rfl rfl dX5_rate_0 ?_
      refine PW.iload_n rfl rfl dX5_rate_1 ?_
      refine PW.cV (ci := 5) (j := 0) _ hS.1 (by decide) rfl kX5_93 (x_isPocket hS hX hD _) rfl rfl (Nat.le_of_ble_eq_true rfl) rfl ⟨by decide, by decide⟩ ⟨Nat.zero_le _, Nat.zero_le _⟩ dX5_rate_2 ?_
      refine PW.if_neB 11 (by decide) dX5_rate_5 (fun hc5 => ?_) (fun hc5 => by (rw [hk] at hc5; cases hc5))
      refine PW.iload_n rfl rfl dX5_rate_11 ?_
      refine PW.tableOut 88 hsw (by decide) dX5_rate_12 ?_
      refine PW.ldc cX5_235 dX5_rate_88 ?_
      refine PW.iret rfl (Nat.le_refl _) (Nat.le_refl _) dX5_rate_90 ?_
      exact ⟨by rw [rateS, if_pos hk, if_neg hx], by rw [rateT, if_pos hk, if_neg hx]; exact hid⟩
  · refine Ret.of (by decide) (Nat.le_of_ble_eq_true rfl) fun l G => ?_
    show PW _ _ _ _ [(0, _), (1, _), (2, _)] _ _ _
    refine PW.aload_n rfl rfl dX5_rate_0 ?_
    refine PW.iload_n rfl rfl dX5_rate_1 ?_
    refine PW.cV (ci := 5) (j := 0) _ hS.1 (by decide) rfl kX5_93 (x_isPocket hS hX hD _) rfl rfl (Nat.le_of_ble_eq_true rfl) rfl ⟨by decide, by decide⟩ ⟨Nat.zero_le _, Nat.zero_le _⟩ dX5_rate_2 ?_
    refine PW.if_neB 11 (by decide) dX5_rate_5 (fun hc5 => by exact absurd hc5 hk) (fun hc5 => ?_)
    refine PW.ldc cX5_235 dX5_rate_8 ?_
    refine PW.iret rfl (Nat.le_refl _) (Nat.le_refl _) dX5_rate_10 ?_
    exact ⟨by rw [rateS, if_neg hk], by rw [rateT, if_neg hk]; exact hid⟩
set_option maxHeartbeats 4000000 in
theorem m_asPocket (hS : St b s sc mem) (hM : MD mem R) (hD : Dat R) (hN : MN mem (R 1 0) w p d) (hw : ∀ t, t < R 1 0 → w t < R 0 0) {k : Nat} (hk : k < R 0 0) (hz : fl mem 95 14 = z) : Ret 1 0 0 mX6_asPocket [.ref 95, .int (nI k)] mem (fun u m1 => u = some (.int (nI (fillN R w k (R 1 0)))) ∧ Tm b s sc mem m1 (z + 1)) := by
  have h6 := hD.1
  refine Ret.of (by decide) (Nat.le_of_ble_eq_true rfl) fun l G => ?_
  show PW _ _ _ _ [(0, _), (1, _)] _ _ _
  refine PW.aload_n rfl rfl dX6_asPocket_0 ?_
  refine PW.dup rfl dX6_asPocket_1 ?_
  refine PW.gL hS.1 (by decide) rfl (hz) fX6_245 dX6_asPocket_2 ?_
  refine PW.lconst (v := 1) (by decide) dX6_asPocket_5 ?_
  refine PW.ladd dX6_asPocket_6 ?_
  refine PW.tL hS (by decide) rfl pX6_245 dX6_asPocket_7 (fun hS hw7 => ?_)
  have ht := Tm.wF hS hw7
  refine PW.aload_n rfl rfl dX6_asPocket_10 ?_
  refine PW.iload_n rfl rfl dX6_asPocket_11 ?_
  refine PW.cV (ci := 6) (j := 0) _ hS.1 (by decide) rfl kX6_181 (m_filled hS (ht.md hM) hD (hN.ag ht.2.1 (by decide)) hw (by omega)) rfl rfl (Nat.le_of_ble_eq_true rfl) rfl ⟨by decide, by decide⟩ ⟨Nat.zero_le _, Nat.zero_le _⟩ dX6_asPocket_12 ?_
  refine PW.iret rfl (Nat.le_refl _) (Nat.le_refl _) dX6_asPocket_15 ?_
  exact ⟨rfl, ht⟩
set_option maxHeartbeats 4000000 in
theorem m_asCoat (hS : St b s sc mem) (hM : MD mem R) (hD : Dat R) (hN : MN mem (R 1 0) w p d) (hw : ∀ t, t < R 1 0 → w t < R 0 0) {k : Nat} (hk : k < R 0 0) (hz : fl mem 95 14 = z) : Ret 2 0 0 mX6_asCoat [.ref 95, .int (nI k)] mem (fun u m1 => u = some (.int (nI (fillN R w k (R 1 0)) + nI (R 3 k))) ∧ Tm b s sc mem m1 (z + 10 + 1)) := by
  have h6 := hD.1
  refine Ret.of (by decide) (Nat.le_of_ble_eq_true rfl) fun l G => ?_
  show PW _ _ _ _ [(0, _), (1, _)] _ _ _
  refine PW.aload_n rfl rfl dX6_asCoat_0 ?_
  refine PW.dup rfl dX6_asCoat_1 ?_
  refine PW.gL hS.1 (by decide) rfl (hz) fX6_245 dX6_asCoat_2 ?_
  refine PW.ldc2 cX6_237 dX6_asCoat_5 ?_
  refine PW.ladd dX6_asCoat_8 ?_
  refine PW.tL hS (by decide) rfl pX6_245 dX6_asCoat_9 (fun hS hw9 => ?_)
  have ht := Tm.wF hS hw9
  refine PW.aload_n rfl rfl dX6_asCoat_12 ?_
  refine PW.iload_n rfl rfl dX6_asCoat_13 ?_
  refine PW.dV (ci := 6) (j := 0) _ hS.1 (by decide) rfl kX6_249 (m_asPocket hS (ht.md hM) hD (hN.ag ht.2.1 (by decide)) hw hk ht.2.2.2) rfl rfl (Nat.le_of_ble_eq_true rfl) rfl ⟨by decide, by decide⟩ ⟨Nat.zero_le _, Nat.zero_le _⟩ dX6_asCoat_14 (fun v m1 q => ?_)
  obtain ⟨rfl, h2⟩ := q
  have hT2 := ht.tr h2
  have hS := hT2.1
  refine PW.aload_n rfl rfl dX6_asCoat_17 ?_
  refine PW.gR hS.1 (by decide) rfl fX6_13 dX6_asCoat_18 ?_
  refine PW.bipush (v := nI 8) (by decide) dX6_asCoat_21 ?_
  refine PW.iload_n rfl rfl dX6_asCoat_23 ?_
  refine PW.imulN dX6_asCoat_24 ?_
  refine PW.aI hS.1 (by decide) rfl (by exact rfl) ⟨by omega, by decide⟩ (((hT2.md hM).2.2.2.1 k hk).1) dX6_asCoat_25 ?_
  refine PW.iadd dX6_asCoat_26 ?_
  refine PW.iret rfl (Nat.le_refl _) (Nat.le_refl _) dX6_asCoat_27 ?_
  exact ⟨rfl, hT2⟩
set_option maxHeartbeats 4000000 in
theorem m_asPurse (hS : St b s sc mem) (hM : MD mem R) (hD : Dat R) (hN : MN mem (R 1 0) w p d) (hw : ∀ t, t < R 1 0 → w t < R 0 0) {k : Nat} (hk : k < R 0 0) (hz : fl mem 95 14 = z) : Ret 2 0 0 mX6_asPurse [.ref 95, .int (nI k)] mem (fun u m1 => u = some (.int (nI (fillN R w k (R 1 0)) - nI (R 5 k))) ∧ Tm b s sc mem m1 (z + 100 + 1)) := by
  have h6 := hD.1
  refine Ret.of (by decide) (Nat.le_of_ble_eq_true rfl) fun l G => ?_
  show PW _ _ _ _ [(0, _), (1, _)] _ _ _
  refine PW.aload_n rfl rfl dX6_asPurse_0 ?_
  refine PW.dup rfl dX6_asPurse_1 ?_
  refine PW.gL hS.1 (by decide) rfl (hz) fX6_245 dX6_asPurse_2 ?_
  refine PW.ldc2 cX6_252 dX6_asPurse_5 ?_
  refine PW.ladd dX6_asPurse_8 ?_
  refine PW.tL hS (by decide) rfl pX6_245 dX6_asPurse_9 (fun hS hw9 => ?_)
  have ht := Tm.wF hS hw9
  refine PW.aload_n rfl rfl dX6_asPurse_12 ?_
  refine PW.iload_n rfl rfl dX6_asPurse_13 ?_
  refine PW.dV (ci := 6) (j := 0) _ hS.1 (by decide) rfl kX6_249 (m_asPocket hS (ht.md hM) hD (hN.ag ht.2.1 (by decide)) hw hk ht.2.2.2) rfl rfl (Nat.le_of_ble_eq_true rfl) rfl ⟨by decide, by decide⟩ ⟨Nat.zero_le _, Nat.zero_le _⟩ dX6_asPurse_14 (fun v m1 q => ?_)
  obtain ⟨rfl, h2⟩ := q
  have hT2 := ht.tr h2
  have hS := hT2.1
  refine PW.aload_n rfl rfl dX6_asPurse_17 ?_
  refine PW.gR hS.1 (by decide) rfl fX6_13 dX6_asPurse_18 ?_
  refine PW.bipush (v := nI 8) (by decide) dX6_asPurse_21 ?_
  refine PW.iload_n rfl rfl dX6_asPurse_23 ?_
  refine PW.imulN dX6_asPurse_24 ?_
  refine PW.iconst (v := nI 2) (by decide) dX6_asPurse_25 ?_
  refine PW.iaddN dX6_asPurse_26 ?_
  refine PW.aI hS.1 (by decide) rfl (by exact rfl) ⟨by omega, by decide⟩ (((hT2.md hM).2.2.2.1 k hk).2.2.1) dX6_asPurse_27 ?_
  refine PW.isub dX6_asPurse_28 ?_
  refine PW.iret rfl (Nat.le_refl _) (Nat.le_refl _) dX6_asPurse_29 ?_
  exact ⟨rfl, hT2⟩
set_option maxHeartbeats 4000000 in
theorem m_rate (hS : St b s sc mem) (hM : MD mem R) (hD : Dat R) (hN : MN mem (R 1 0) w p d) (hw : ∀ t, t < R 1 0 → w t < R 0 0) (hz : fl mem 95 14 = z) (i k : Int32) : Ret 3 0 0 mX6_rate [.ref 95, .int i, .int k] mem (fun u m1 => u = some (.int (rateS R w i k)) ∧ Tm b s sc mem m1 (rateT (R 0 0) i k z)) := by
  have h6 := hD.1
  have hid : Tm b s sc mem mem z := ⟨hS, Ag.rf, fun _ _ => rfl, hz⟩
  by_cases hx : inR i 6 = true
  · by_cases hk : inR k (R 0 0) = true
    · obtain ⟨k, hk', rfl⟩ := inR_of hk
      have hv : rateS R w i (nI k) = [nI (fillN R w k (R 1 0)), nI (fillN R w k (R 1 0)) + nI (R 3 k), nI (fillN R w k (R 1 0)) - nI (R 5 k), nI 2 * (nI (fillN R w k (R 1 0)) + nI (R 3 k)), (nI (fillN R w k (R 1 0)) - nI (R 5 k)) + nI k, nI (fillN R w k (R 1 0)) + nI (depN R 6 (R 6 k))].getD (cl i) 0 := by rw [rateS, if_pos hk, if_pos hx, cl_nI (by omega)]
      have hv2 : rateT (R 0 0) i (nI k) z = [z + 1, z + 10 + 1, z + 100 + 1, z + 1000 + 10 + 1, z + 10000 + 100 + 1, z + 100000 + 1].getD (cl i) 0 := by rw [rateT, if_pos hk, if_pos hx]
      rw [hv, hv2]
      obtain ⟨j, hj, rfl⟩ := inR_of hx
      rw [cl_nI (by omega)]
      refine Ret.of (by decide) (Nat.le_of_ble_eq_true rfl) fun l G => ?_
      show PW _ _ _ _ [(0, _), (1, _), (2, _)] _ _ _
      refine PW.iload_n rfl rfl dX6_rate_0 ?_
      refine PW.i2l dX6_rate_1 ?_
      refine PW.lconst (v := 0) (by decide) dX6_rate_2 ?_
      refine PW.ldc2 cX6_199 dX6_rate_3 ?_
      refine PW.cS _ kX6_82 (m_inR (nI j) (h := 5) (n := 6) rfl mem) rfl rfl (Nat.le_of_ble_eq_true rfl) ⟨by decide, by decide⟩ ⟨Nat.zero_le _, Nat.zero_le _⟩ dX6_rate_6 ?_
      refine PW.if_eqB 20 (by decide) dX6_rate_9 (fun hc9 => by (first | (rw [hx] at hc9; cases hc9) | (rw [hk] at hc9; cases hc9))) (fun hc9 => ?_)
      refine PW.aload_n rfl rfl dX6_rate_12 ?_
      refine PW.iload_n rfl rfl dX6_rate_13 ?_
      refine PW.cV (ci := 6) (j := 0) _ hS.1 (by decide) rfl kX6_178 (m_isPocket hS hM hD _) rfl rfl (Nat.le_of_ble_eq_true rfl) rfl ⟨by decide, by decide⟩ ⟨Nat.zero_le _, Nat.zero_le _⟩ dX6_rate_14 ?_
      refine PW.if_neB 23 (by decide) dX6_rate_17 (fun hc17 => ?_) (fun hc17 => by (first | (rw [hx] at hc17; cases hc17) | (rw [hk] at hc17; cases hc17)))
      refine PW.iload_n rfl rfl dX6_rate_23 ?_
      refine PW.iconst (v := nI 3) (by decide) dX6_rate_24 ?_
      refine PW.icmp_neN 48 (by decide) (by first | omega | (split <;> omega)) (by first | omega | (split <;> omega)) dX6_rate_25 (fun hc25 => ?_) (fun hc25 => ?_)
      · refine PW.iload_n rfl rfl dX6_rate_48 ?_
        refine PW.iconst (v := nI 4) (by decide) dX6_rate_49 ?_
        refine PW.icmp_neN 73 (by decide) (by first | omega | (split <;> omega)) (by first | omega | (split <;> omega)) dX6_rate_50 (fun hc50 => ?_) (fun hc50 => ?_)
        · refine PW.iload_n rfl rfl dX6_rate_73 ?_
          refine PW.iconst (v := nI 5) (by decide) dX6_rate_74 ?_
          refine PW.icmp_neN 102 (by decide) (by first | omega | (split <;> omega)) (by first | omega | (split <;> omega)) dX6_rate_75 (fun hc75 => ?_) (fun hc75 => ?_)
          · refine PW.iload_n rfl rfl dX6_rate_102 ?_
            refine PW.if_neN 114 (by decide) (by first | omega | (split <;> omega)) dX6_rate_103 (fun hc103 => ?_) (fun hc103 => ?_)
            · refine PW.iload_n rfl rfl dX6_rate_114 ?_
              refine PW.iconst (v := nI 1) (by decide) dX6_rate_115 ?_
              refine PW.icmp_neN 127 (by decide) (by first | omega | (split <;> omega)) (by first | omega | (split <;> omega)) dX6_rate_116 (fun hc116 => ?_) (fun hc116 => ?_)
              · refine PW.aload_n rfl rfl dX6_rate_127 ?_
                refine PW.iload_n rfl rfl dX6_rate_128 ?_
                refine PW.dV (ci := 6) (j := 0) _ hS.1 (by decide) rfl kX6_262 (m_asPurse hS hM hD hN hw hk' hz) rfl rfl (Nat.le_of_ble_eq_true rfl) rfl ⟨by decide, by decide⟩ ⟨Nat.zero_le _, Nat.zero_le _⟩ dX6_rate_129 (fun v m1 q => ?_)
                obtain ⟨rfl, h2⟩ := q
                refine PW.iret rfl (Nat.le_refl _) (Nat.le_refl _) dX6_rate_132 ?_
                first | (have hj0 : j = 0 := by omega) | (have hj0 : j = 1 := by omega) | (have hj0 : j = 2 := by omega) | (have hj0 : j = 3 := by omega) | (have hj0 : j = 4 := by omega) | (have hj0 : j = 5 := by omega)
                subst hj0
                first | exact ⟨rfl, h2⟩ | exact ⟨rfl, hT2⟩ | exact ⟨rfl, ht.tr h2⟩
              · refine PW.aload_n rfl rfl dX6_rate_119 ?_
                refine PW.iload_n rfl rfl dX6_rate_120 ?_
                refine PW.dV (ci := 6) (j := 0) _ hS.1 (by decide) rfl kX6_257 (m_asCoat hS hM hD hN hw hk' hz) rfl rfl (Nat.le_of_ble_eq_true rfl) rfl ⟨by decide, by decide⟩ ⟨Nat.zero_le _, Nat.zero_le _⟩ dX6_rate_121 (fun v m1 q => ?_)
                obtain ⟨rfl, h2⟩ := q
                refine PW.goto 132 (by decide) dX6_rate_124 ?_
                refine PW.iret rfl (Nat.le_refl _) (Nat.le_refl _) dX6_rate_132 ?_
                first | (have hj0 : j = 0 := by omega) | (have hj0 : j = 1 := by omega) | (have hj0 : j = 2 := by omega) | (have hj0 : j = 3 := by omega) | (have hj0 : j = 4 := by omega) | (have hj0 : j = 5 := by omega)
                subst hj0
                first | exact ⟨rfl, h2⟩ | exact ⟨rfl, hT2⟩ | exact ⟨rfl, ht.tr h2⟩
            · refine PW.aload_n rfl rfl dX6_rate_106 ?_
              refine PW.iload_n rfl rfl dX6_rate_107 ?_
              refine PW.dV (ci := 6) (j := 0) _ hS.1 (by decide) rfl kX6_249 (m_asPocket hS hM hD hN hw hk' hz) rfl rfl (Nat.le_of_ble_eq_true rfl) rfl ⟨by decide, by decide⟩ ⟨Nat.zero_le _, Nat.zero_le _⟩ dX6_rate_108 (fun v m1 q => ?_)
              obtain ⟨rfl, h2⟩ := q
              refine PW.goto 132 (by decide) dX6_rate_111 ?_
              refine PW.iret rfl (Nat.le_refl _) (Nat.le_refl _) dX6_rate_132 ?_
              first | (have hj0 : j = 0 := by omega) | (have hj0 : j = 1 := by omega) | (have hj0 : j = 2 := by omega) | (have hj0 : j = 3 := by omega) | (have hj0 : j = 4 := by omega) | (have hj0 : j = 5 := by omega)
              subst hj0
              first | exact ⟨rfl, h2⟩ | exact ⟨rfl, hT2⟩ | exact ⟨rfl, ht.tr h2⟩
          · refine PW.aload_n rfl rfl dX6_rate_78 ?_
            refine PW.dup rfl dX6_rate_79 ?_
            refine PW.gL hS.1 (by decide) rfl (hz) fX6_245 dX6_rate_80 ?_
            refine PW.ldc2 cX6_265 dX6_rate_83 ?_
            refine PW.ladd dX6_rate_86 ?_
            refine PW.tL hS (by decide) rfl pX6_245 dX6_rate_87 (fun hS hw87 => ?_)
            have ht := Tm.wF hS hw87
            refine PW.aload_n rfl rfl dX6_rate_90 ?_
            refine PW.iload_n rfl rfl dX6_rate_91 ?_
            refine PW.dV (ci := 6) (j := 0) _ hS.1 (by decide) rfl kX6_249 (m_asPocket hS (ht.md hM) hD (hN.ag ht.2.1 (by decide)) hw hk' ht.2.2.2) rfl rfl (Nat.le_of_ble_eq_true rfl) rfl ⟨by decide, by decide⟩ ⟨Nat.zero_le _, Nat.zero_le _⟩ dX6_rate_92 (fun v m1 q => ?_)
            obtain ⟨rfl, h2⟩ := q
            have hT2 := ht.tr h2
            have hS := hT2.1
            refine PW.aload_n rfl rfl dX6_rate_95 ?_
            refine PW.iload_n rfl rfl dX6_rate_96 ?_
            refine PW.cV (ci := 6) (j := 0) _ hS.1 (by decide) rfl kX6_184 (m_depthOf hS (hT2.md hM) hD hk') rfl rfl (Nat.le_of_ble_eq_true rfl) rfl ⟨by decide, by decide⟩ ⟨Nat.zero_le _, Nat.zero_le _⟩ dX6_rate_97 ?_
            refine PW.iadd dX6_rate_100 ?_
            refine PW.iret rfl (Nat.le_refl _) (Nat.le_refl _) dX6_rate_101 ?_
            first | (have hj0 : j = 0 := by omega) | (have hj0 : j = 1 := by omega) | (have hj0 : j = 2 := by omega) | (have hj0 : j = 3 := by omega) | (have hj0 : j = 4 := by omega) | (have hj0 : j = 5 := by omega)
            subst hj0
            first | exact ⟨rfl, h2⟩ | exact ⟨rfl, hT2⟩ | exact ⟨rfl, ht.tr h2⟩
        · refine PW.aload_n rfl rfl dX6_rate_53 ?_
          refine PW.dup rfl dX6_rate_54 ?_
          refine PW.gL hS.1 (by decide) rfl (hz) fX6_245 dX6_rate_55 ?_
          refine PW.ldc2 cX6_260 dX6_rate_58 ?_
          refine PW.ladd dX6_rate_61 ?_
          refine PW.tL hS (by decide) rfl pX6_245 dX6_rate_62 (fun hS hw62 => ?_)
          have ht := Tm.wF hS hw62
          refine PW.aload_n rfl rfl dX6_rate_65 ?_
          refine PW.iload_n rfl rfl dX6_rate_66 ?_
          refine PW.dV (ci := 6) (j := 0) _ hS.1 (by decide) rfl kX6_262 (m_asPurse hS (ht.md hM) hD (hN.ag ht.2.1 (by decide)) hw hk' ht.2.2.2) rfl rfl (Nat.le_of_ble_eq_true rfl) rfl ⟨by decide, by decide⟩ ⟨Nat.zero_le _, Nat.zero_le _⟩ dX6_rate_67 (fun v m1 q => ?_)
          obtain ⟨rfl, h2⟩ := q
          refine PW.iload_n rfl rfl dX6_rate_70 ?_
          refine PW.iadd dX6_rate_71 ?_
          refine PW.iret rfl (Nat.le_refl _) (Nat.le_refl _) dX6_rate_72 ?_
          first | (have hj0 : j = 0 := by omega) | (have hj0 : j = 1 := by omega) | (have hj0 : j = 2 := by omega) | (have hj0 : j = 3 := by omega) | (have hj0 : j = 4 := by omega) | (have hj0 : j = 5 := by omega)
          subst hj0
          first | exact ⟨rfl, h2⟩ | exact ⟨rfl, hT2⟩ | exact ⟨rfl, ht.tr h2⟩
      · refine PW.aload_n rfl rfl dX6_rate_28 ?_
        refine PW.dup rfl dX6_rate_29 ?_
        refine PW.gL hS.1 (by decide) rfl (hz) fX6_245 dX6_rate_30 ?_
        refine PW.ldc2 cX6_255 dX6_rate_33 ?_
        refine PW.ladd dX6_rate_36 ?_
        refine PW.tL hS (by decide) rfl pX6_245 dX6_rate_37 (fun hS hw37 => ?_)
        have ht := Tm.wF hS hw37
        refine PW.iconst (v := nI 2) (by decide) dX6_rate_40 ?_
        refine PW.aload_n rfl rfl dX6_rate_41 ?_
        refine PW.iload_n rfl rfl dX6_rate_42 ?_
        refine PW.dV (ci := 6) (j := 0) _ hS.1 (by decide) rfl kX6_257 (m_asCoat hS (ht.md hM) hD (hN.ag ht.2.1 (by decide)) hw hk' ht.2.2.2) rfl rfl (Nat.le_of_ble_eq_true rfl) rfl ⟨by decide, by decide⟩ ⟨Nat.zero_le _, Nat.zero_le _⟩ dX6_rate_43 (fun v m1 q => ?_)
        obtain ⟨rfl, h2⟩ := q
        refine PW.imul dX6_rate_46 ?_
        refine PW.iret rfl (Nat.le_refl _) (Nat.le_refl _) dX6_rate_47 ?_
        first | (have hj0 : j = 0 := by omega) | (have hj0 : j = 1 := by omega) | (have hj0 : j = 2 := by omega) | (have hj0 : j = 3 := by omega) | (have hj0 : j = 4 := by omega) | (have hj0 : j = 5 := by omega)
        subst hj0
        first | exact ⟨rfl, h2⟩ | exact ⟨rfl, hT2⟩ | exact ⟨rfl, ht.tr h2⟩
    · refine Ret.of (by decide) (Nat.le_of_ble_eq_true rfl) fun l G => ?_
      show PW _ _ _ _ [(0, _), (1, _), (2, _)] _ _ _
      refine PW.iload_n rfl rfl dX6_rate_0 ?_
      refine PW.i2l dX6_rate_1 ?_
      refine PW.lconst (v := 0) (by decide) dX6_rate_2 ?_
      refine PW.ldc2 cX6_199 dX6_rate_3 ?_
      refine PW.cS _ kX6_82 (m_inR i (h := 5) (n := 6) rfl mem) rfl rfl (Nat.le_of_ble_eq_true rfl) ⟨by decide, by decide⟩ ⟨Nat.zero_le _, Nat.zero_le _⟩ dX6_rate_6 ?_
      refine PW.if_eqB 20 (by decide) dX6_rate_9 (fun hc9 => by (first | (rw [hx] at hc9; cases hc9) | exact absurd hc9 hk)) (fun hc9 => ?_)
      refine PW.aload_n rfl rfl dX6_rate_12 ?_
      refine PW.iload_n rfl rfl dX6_rate_13 ?_
      refine PW.cV (ci := 6) (j := 0) _ hS.1 (by decide) rfl kX6_178 (m_isPocket hS hM hD _) rfl rfl (Nat.le_of_ble_eq_true rfl) rfl ⟨by decide, by decide⟩ ⟨Nat.zero_le _, Nat.zero_le _⟩ dX6_rate_14 ?_
      refine PW.if_neB 23 (by decide) dX6_rate_17 (fun hc17 => by (first | (rw [hx] at hc17; cases hc17) | exact absurd hc17 hk)) (fun hc17 => ?_)
      refine PW.ldc cX6_254 dX6_rate_20 ?_
      refine PW.iret rfl (Nat.le_refl _) (Nat.le_refl _) dX6_rate_22 ?_
      exact ⟨by rw [rateS, if_neg hk], by rw [rateT, if_neg hk]; exact hid⟩
  · have e1 : rateS R w i k = -1000000 := by unfold rateS; rw [if_neg hx]; split <;> rfl
    have e2 : rateT (R 0 0) i k z = z := by unfold rateT; rw [if_neg hx]; split <;> rfl
    refine Ret.of (by decide) (Nat.le_of_ble_eq_true rfl) fun l G => ?_
    show PW _ _ _ _ [(0, _), (1, _), (2, _)] _ _ _
    refine PW.iload_n rfl rfl dX6_rate_0 ?_
    refine PW.i2l dX6_rate_1 ?_
    refine PW.lconst (v := 0) (by decide) dX6_rate_2 ?_
    refine PW.ldc2 cX6_199 dX6_rate_3 ?_
    refine PW.cS _ kX6_82 (m_inR i (h := 5) (n := 6) rfl mem) rfl rfl (Nat.le_of_ble_eq_true rfl) ⟨by decide, by decide⟩ ⟨Nat.zero_le _, Nat.zero_le _⟩ dX6_rate_6 ?_
    refine PW.if_eqB 20 (by decide) dX6_rate_9 (fun hc9 => ?_) (fun hc9 => by exact absurd hc9 hx)
    refine PW.ldc cX6_254 dX6_rate_20 ?_
    refine PW.iret rfl (Nat.le_refl _) (Nat.le_refl _) dX6_rate_22 ?_
    exact ⟨by rw [e1], by rw [e2]; exact hid⟩
end RATE
