/-! ===== what is done and undone: objects that hold where things are ===== -/
section DEED
variable {b s : Nat} {sc : pw_E} {mem : pw_M} {R : DR} {w : Nat → Nat} {p : Int32} {d : Nat} {e : Nat}
set_option maxHeartbeats 4000000 in
theorem x_become (hS : St b s sc mem) {n o : Nat} (hn : isN n) (ho : isN o) (hne : n ≠ o) (hne1 : n ≠ o + 1) (hne2 : n + 1 ≠ o) : Ret 1 0 0 mX0_become [.ref n, .ref o] mem (fun u m1 => u = none ∧ St b s sc m1 ∧ Ag (fun q => q ≠ n ∧ q ≠ n + 1) mem m1 ∧ (∀ i, i < 6 → iv m1 (n + 1) i = iv mem (o + 1) i) ∧ fi m1 n 1 = fi mem o 1 ∧ fi m1 n 2 = fi mem o 2) := by
  refine Ret.of (by decide) (Nat.le_of_ble_eq_true rfl) fun l G => ?_
  show PW _ _ _ _ [(0, _), (1, _)] _ _ _
  refine PW.aload_n rfl rfl dX0_become_0 ?_
  refine PW.gR hS.1 ho.nine (skN0 ho) fX0_9 dX0_become_1 ?_
  refine PW.iconst (v := nI 0) (by decide) dX0_become_4 ?_
  refine PW.aload_n rfl rfl dX0_become_5 ?_
  refine PW.gR hS.1 hn.nine (skN0 hn) fX0_9 dX0_become_6 ?_
  refine PW.iconst (v := nI 0) (by decide) dX0_become_9 ?_
  refine PW.bipush (v := nI 6) (by decide) dX0_become_10 ?_
  refine PW.copy hS (Nat.le_succ_of_le ho.nine) (Nat.le_succ_of_le hn.nine) (akN ho) (akN hn) kX0_15 ⟨by decide, by decide⟩ (Nat.le_of_ble_eq_true rfl) dX0_become_12 (fun m1 hS hA12 hV12 => ?_)
  refine PW.aload_n rfl rfl dX0_become_15 ?_
  refine PW.aload_n rfl rfl dX0_become_16 ?_
  refine PW.gI hS.1 ho.nine (skN1 ho) (by exact rfl) fX0_21 dX0_become_17 ?_
  refine PW.tI hS hn.nine (skN1 hn) pX0_21 dX0_become_20 (fun hS hw20 => ?_)
  refine PW.aload_n rfl rfl dX0_become_23 ?_
  refine PW.aload_n rfl rfl dX0_become_24 ?_
  refine PW.gI hS.1 ho.nine (skN2 ho) (by exact rfl) fX0_25 dX0_become_25 ?_
  refine PW.tI hS hn.nine (skN2 hn) pX0_25 dX0_become_28 (fun hS hw28 => ?_)
  refine PW.vret rfl (Nat.le_refl _) (Nat.le_refl _) dX0_become_31 ?_
  refine ⟨rfl, hS, ((hA12.mono (fun q h => h.2)).tr (Ag.wF (fun h => h.1 rfl))).tr (Ag.wF (fun h => h.1 rfl)), fun i hi => ?_, ?_, ?_⟩
  · rw [iv_wF, iv_wF]; exact hV12 i hi
  · rw [fi_wF_ne (Or.inr (by decide)), hw20, hA12.fi (r := o) (fun h => hne2 h.symm)]
  · rw [hw28, fi_wF_ne (Or.inl (fun h => hne h.symm)), hA12.fi (r := o) (fun h => hne2 h.symm)]
set_option maxHeartbeats 4000000 in
theorem x_begin (hS : St b s sc mem) (he : e = 49 ∨ e = 72) : Ret 1 0 0 mX0_begin [.ref 13, .ref e] mem (fun u m1 => u = none ∧ St b s sc m1 ∧ Ag (fun q => q ≠ 13 ∧ q ≠ 14) mem m1 ∧ (∀ i, i < 6 → iv m1 14 i = iv mem (e + 20) i) ∧ fi m1 13 1 = 0 ∧ fi m1 13 2 = 0) := by
  refine Ret.of (by decide) (Nat.le_of_ble_eq_true rfl) fun l G => ?_
  show PW _ _ _ _ [(0, _), (1, _)] _ _ _
  refine PW.aload_n rfl rfl dX0_begin_0 ?_
  refine PW.gR hS.1 (by have := he; omega) (skR16 he) fX0_28 dX0_begin_1 ?_
  refine PW.iconst (v := nI 0) (by decide) dX0_begin_4 ?_
  refine PW.aload_n rfl rfl dX0_begin_5 ?_
  refine PW.gR hS.1 (by decide) rfl fX0_9 dX0_begin_6 ?_
  refine PW.iconst (v := nI 0) (by decide) dX0_begin_9 ?_
  refine PW.bipush (v := nI 6) (by decide) dX0_begin_10 ?_
  refine PW.copy hS (by have := he; omega) (by decide) (akR20 he) rfl kX0_15 ⟨by decide, by decide⟩ (Nat.le_of_ble_eq_true rfl) dX0_begin_12 (fun m1 hS hA12 hV12 => ?_)
  refine PW.aload_n rfl rfl dX0_begin_15 ?_
  refine PW.iconst (v := nI 0) (by decide) dX0_begin_16 ?_
  refine PW.tI hS (by decide) rfl pX0_21 dX0_begin_17 (fun hS hw17 => ?_)
  refine PW.aload_n rfl rfl dX0_begin_20 ?_
  refine PW.iconst (v := nI 0) (by decide) dX0_begin_21 ?_
  refine PW.tI hS (by decide) rfl pX0_25 dX0_begin_22 (fun hS hw22 => ?_)
  refine PW.vret rfl (Nat.le_refl _) (Nat.le_refl _) dX0_begin_25 ?_
  refine ⟨rfl, hS, ((hA12.mono (fun q h => h.2)).tr (Ag.wF (fun h => h.1 rfl))).tr (Ag.wF (fun h => h.1 rfl)), fun i hi => ?_, ?_, ?_⟩
  · rw [iv_wF, iv_wF]; exact hV12 i hi
  · rw [fi_wF_ne (Or.inr (by decide)), hw17]; rfl
  · rw [hw22]; rfl
set_option maxHeartbeats 4000000 in
theorem x_push (hS : St b s sc mem) {K T : Nat} (hK : K ≤ 10) (hT : T < 10) (h1 : fi mem 15 1 = nI K) (h2 : fi mem 15 2 = nI T) : Ret 2 0 0 mX1_push [.ref 15, .ref 13] mem (fun u m1 => u = none ∧ St b s sc m1 ∧ Ag (fun q => q ≠ 15 ∧ q ≠ 17 + 2 * T ∧ q ≠ 17 + 2 * T + 1) mem m1 ∧ (∀ i, i < 6 → iv m1 (17 + 2 * T + 1) i = iv mem 14 i) ∧ fi m1 (17 + 2 * T) 1 = fi mem 13 1 ∧ fi m1 (17 + 2 * T) 2 = fi mem 13 2 ∧ fi m1 15 1 = nI (if K + 1 < 10 then K + 1 else 10) ∧ fi m1 15 2 = nI (if T + 1 < 10 then T + 1 else 0)) := by
  refine Ret.of (by decide) (Nat.le_of_ble_eq_true rfl) fun l G => ?_
  show PW _ _ _ _ [(0, _), (1, _)] _ _ _
  refine PW.aload_n rfl rfl dX1_push_0 ?_
  refine PW.gR hS.1 (by decide) rfl fX1_11 dX1_push_1 ?_
  refine PW.aload_n rfl rfl dX1_push_4 ?_
  refine PW.gI hS.1 (by decide) rfl (h2) fX1_18 dX1_push_5 ?_
  refine PW.aQ hS.1 (by decide) rfl (fun _ => rfl) rfl (by exact rfl) ⟨by omega, by decide⟩ (qRing (by omega)) dX1_push_8 ?_
  refine PW.aload_n rfl rfl dX1_push_9 ?_
  refine PW.dV (ci := 0) (j := 0) _ hS.1 (isNr (by omega)).nine (skN0 (isNr (by omega))) kX1_22 (x_become hS (isNr hT) isN13 (by omega) (by omega) (by omega)) rfl rfl (Nat.le_of_ble_eq_true rfl) rfl ⟨by decide, by decide⟩ ⟨Nat.zero_le _, Nat.zero_le _⟩ dX1_push_10 (fun v m1 q => ?_)
  obtain ⟨rfl, hS, hA, hv, hp, hd⟩ := q
  have h2' : fi m1 15 2 = nI T := by rw [hA.fi (r := 15) ⟨by omega, by omega⟩]; exact h2
  refine PW.aload_n rfl rfl dX1_push_13 ?_
  refine PW.aload_n rfl rfl dX1_push_14 ?_
  refine PW.gI hS.1 (by decide) rfl (h2') fX1_18 dX1_push_15 ?_
  refine PW.iconst (v := nI 1) (by decide) dX1_push_18 ?_
  refine PW.iaddN dX1_push_19 ?_
  refine PW.bipush (v := nI 10) (by decide) dX1_push_20 ?_
  refine PW.icmp_geN 34 (by decide) (by first | omega | (split <;> omega)) (by first | omega | (split <;> omega)) dX1_push_22 (fun hc22 => ?_) (fun hc22 => ?_)
  · refine PW.iconst (v := nI 0) (by decide) dX1_push_34 ?_
    refine PW.tI hS (by decide) rfl pX1_18 dX1_push_35 (fun hS hw35 => ?_)
    have h1' : ∀ x, fi (wF m1 15 2 (.int x)) 15 1 = nI K := fun x => by rw [fi_wF_ne (Or.inr (by decide)), hA.fi (r := 15) ⟨by omega, by omega⟩]; exact h1
    refine PW.aload_n rfl rfl dX1_push_38 ?_
    refine PW.bipush (v := nI 10) (by decide) dX1_push_39 ?_
    refine PW.aload_n rfl rfl dX1_push_41 ?_
    refine PW.gI hS.1 (by decide) rfl (h1' _) fX1_26 dX1_push_42 ?_
    refine PW.iconst (v := nI 1) (by decide) dX1_push_45 ?_
    refine PW.iaddN dX1_push_46 ?_
    refine PW.mminN kX1_29 ⟨by decide, by decide⟩ ⟨Nat.zero_le _, Nat.zero_le _⟩ (Nat.le_of_ble_eq_true rfl) (by first | omega | (split <;> omega)) (by first | omega | (split <;> omega)) dX1_push_47 ?_
    refine PW.tI hS (by decide) rfl pX1_26 dX1_push_50 (fun hS hw50 => ?_)
    refine PW.vret rfl (Nat.le_refl _) (Nat.le_refl _) dX1_push_53 ?_
    refine ⟨rfl, hS, ((hA.mono (fun q h => h.2)).tr (Ag.wF (fun h => h.1 rfl))).tr (Ag.wF (fun h => h.1 rfl)), fun i hi => by rw [iv_wF, iv_wF]; exact hv i hi, by rw [fi_wF_ne (Or.inl (by omega)), fi_wF_ne (Or.inl (by omega))]; exact hp, by rw [fi_wF_ne (Or.inl (by omega)), fi_wF_ne (Or.inl (by omega))]; exact hd, hw50, ?_⟩
    rw [fi_wF_ne (Or.inr (by decide)), hw35]
    first | rw [if_neg (by omega)] | rw [if_pos (by omega)]
  · refine PW.aload_n rfl rfl dX1_push_25 ?_
    refine PW.gI hS.1 (by decide) rfl (h2') fX1_18 dX1_push_26 ?_
    refine PW.iconst (v := nI 1) (by decide) dX1_push_29 ?_
    refine PW.iaddN dX1_push_30 ?_
    refine PW.goto 35 (by decide) dX1_push_31 ?_
    refine PW.tI hS (by decide) rfl pX1_18 dX1_push_35 (fun hS hw35 => ?_)
    have h1' : ∀ x, fi (wF m1 15 2 (.int x)) 15 1 = nI K := fun x => by rw [fi_wF_ne (Or.inr (by decide)), hA.fi (r := 15) ⟨by omega, by omega⟩]; exact h1
    refine PW.aload_n rfl rfl dX1_push_38 ?_
    refine PW.bipush (v := nI 10) (by decide) dX1_push_39 ?_
    refine PW.aload_n rfl rfl dX1_push_41 ?_
    refine PW.gI hS.1 (by decide) rfl (h1' _) fX1_26 dX1_push_42 ?_
    refine PW.iconst (v := nI 1) (by decide) dX1_push_45 ?_
    refine PW.iaddN dX1_push_46 ?_
    refine PW.mminN kX1_29 ⟨by decide, by decide⟩ ⟨Nat.zero_le _, Nat.zero_le _⟩ (Nat.le_of_ble_eq_true rfl) (by first | omega | (split <;> omega)) (by first | omega | (split <;> omega)) dX1_push_47 ?_
    refine PW.tI hS (by decide) rfl pX1_26 dX1_push_50 (fun hS hw50 => ?_)
    refine PW.vret rfl (Nat.le_refl _) (Nat.le_refl _) dX1_push_53 ?_
    refine ⟨rfl, hS, ((hA.mono (fun q h => h.2)).tr (Ag.wF (fun h => h.1 rfl))).tr (Ag.wF (fun h => h.1 rfl)), fun i hi => by rw [iv_wF, iv_wF]; exact hv i hi, by rw [fi_wF_ne (Or.inl (by omega)), fi_wF_ne (Or.inl (by omega))]; exact hp, by rw [fi_wF_ne (Or.inl (by omega)), fi_wF_ne (Or.inl (by omega))]; exact hd, hw50, ?_⟩
    rw [fi_wF_ne (Or.inr (by decide)), hw35]
    first | rw [if_neg (by omega)] | rw [if_pos (by omega)]
end DEED
