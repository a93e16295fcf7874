/-! ===== popInto, note, undo, keep, back ===== -/
section UNDO
variable {b s : Nat} {sc : pw_E} {mem : pw_M} {R : DR} {w : Nat → Nat} {p : Int32} {d : Nat} {e : Nat}
set_option maxHeartbeats 4000000 in
theorem x_popInto (hS : St b s sc mem) {K T T1 : Nat} (hK : K + 1 ≤ 10) (hT : T < 10) (h1 : fi mem 15 1 = nI (K + 1)) (h2 : fi mem 15 2 = nI T) (hT1 : T1 = if 0 < T then T - 1 else 9) : Ret 2 0 0 mX1_popInto [.ref 15, .ref 13] mem (fun u m1 => u = none ∧ St b s sc m1 ∧ Ag (fun q => q ≠ 15 ∧ q ≠ 13 ∧ q ≠ 14) mem m1 ∧ (∀ i, i < 6 → iv m1 14 i = iv mem (17 + 2 * T1 + 1) i) ∧ fi m1 13 1 = fi mem (17 + 2 * T1) 1 ∧ fi m1 13 2 = fi mem (17 + 2 * T1) 2 ∧ fi m1 15 1 = nI K ∧ fi m1 15 2 = nI T1) := by
  have hT10 : T1 < 10 := by rw [hT1]; split <;> omega
  have hS0 := hS
  by_cases hz : 0 < T
  · have e1 : T - 1 = T1 := by rw [hT1, if_pos hz]
    refine Ret.of (by decide) (Nat.le_of_ble_eq_true rfl) fun l G => ?_
    show PW _ _ _ _ [(0, _), (1, _)] _ _ _
    refine PW.aload_n rfl rfl dX1_popInto_0 ?_
    refine PW.aload_n rfl rfl dX1_popInto_1 ?_
    refine PW.gI hS.1 (by decide) rfl (h2) fX1_18 dX1_popInto_2 ?_
    refine PW.if_leN 17 (by decide) (by first | omega | (split <;> omega)) dX1_popInto_5 (fun hc5 => by exfalso; omega) (fun hc5 => ?_)
    refine PW.aload_n rfl rfl dX1_popInto_8 ?_
    refine PW.gI hS.1 (by decide) rfl (h2) fX1_18 dX1_popInto_9 ?_
    refine PW.iconst (v := nI 1) (by decide) dX1_popInto_12 ?_
    refine PW.isubN (by omega) dX1_popInto_13 ?_
    refine PW.goto 19 (by decide) dX1_popInto_14 ?_
    rw [e1]
    refine PW.tI hS (by decide) rfl pX1_18 dX1_popInto_19 (fun hS hw19 => ?_)
    have hw19' : fi (wF mem 15 2 (.int (nI T1))) 15 2 = nI T1 := hS0.1.fi_wF (ci := 1) (u := .int 0) (by decide) rfl
    refine PW.aload_n rfl rfl dX1_popInto_22 ?_
    refine PW.aload_n rfl rfl dX1_popInto_23 ?_
    refine PW.gR hS.1 (by decide) rfl fX1_11 dX1_popInto_24 ?_
    refine PW.aload_n rfl rfl dX1_popInto_27 ?_
    refine PW.gI hS.1 (by decide) rfl (hw19') fX1_18 dX1_popInto_28 ?_
    refine PW.aQ hS.1 (by decide) rfl (fun _ => rfl) rfl (by exact rfl) ⟨by omega, by decide⟩ (qRing (by omega)) dX1_popInto_31 ?_
    refine PW.dV (ci := 0) (j := 0) _ hS.1 (by decide) rfl kX1_22 (x_become hS isN13 (isNr hT10) (by omega) (by omega) (by omega)) rfl rfl (Nat.le_of_ble_eq_true rfl) rfl ⟨by decide, by decide⟩ ⟨Nat.zero_le _, Nat.zero_le _⟩ dX1_popInto_32 (fun v m1 q => ?_)
    obtain ⟨rfl, hS, hA, hv, hp, hd⟩ := q
    have h1' : fi m1 15 1 = nI (K + 1) := by rw [hA.fi (r := 15) ⟨by decide, by decide⟩, fi_wF_ne (Or.inr (by decide))]; exact h1
    refine PW.aload_n rfl rfl dX1_popInto_35 ?_
    refine PW.dup rfl dX1_popInto_36 ?_
    refine PW.gI hS.1 (by decide) rfl (h1') fX1_26 dX1_popInto_37 ?_
    refine PW.iconst (v := nI 1) (by decide) dX1_popInto_40 ?_
    refine PW.isubN (by omega) dX1_popInto_41 ?_
    refine PW.tI hS (by decide) rfl pX1_26 dX1_popInto_42 (fun hS hw42 => ?_)
    refine PW.vret rfl (Nat.le_refl _) (Nat.le_refl _) dX1_popInto_45 ?_
    refine ⟨rfl, hS, ((Ag.wF (fun h => h.1 rfl)).tr (hA.mono (fun q h => h.2))).tr (Ag.wF (fun h => h.1 rfl)), fun i hi => by rw [iv_wF, hv i hi, iv_wF], by rw [fi_wF_ne (Or.inl (by decide)), hp, fi_wF_ne (Or.inl (by omega))], by rw [fi_wF_ne (Or.inl (by decide)), hd, fi_wF_ne (Or.inl (by omega))], by rw [hw42]; rfl, by rw [fi_wF_ne (Or.inr (by decide)), hA.fi (r := 15) ⟨by decide, by decide⟩]; exact hw19'⟩
  · have e1 : 9 = T1 := by rw [hT1, if_neg hz]
    refine Ret.of (by decide) (Nat.le_of_ble_eq_true rfl) fun l G => ?_
    show PW _ _ _ _ [(0, _), (1, _)] _ _ _
    refine PW.aload_n rfl rfl dX1_popInto_0 ?_
    refine PW.aload_n rfl rfl dX1_popInto_1 ?_
    refine PW.gI hS.1 (by decide) rfl (h2) fX1_18 dX1_popInto_2 ?_
    refine PW.if_leN 17 (by decide) (by first | omega | (split <;> omega)) dX1_popInto_5 (fun hc5 => ?_) (fun hc5 => by exfalso; omega)
    refine PW.bipush (v := nI 9) (by decide) dX1_popInto_17 ?_
    rw [e1]
    refine PW.tI hS (by decide) rfl pX1_18 dX1_popInto_19 (fun hS hw19 => ?_)
    have hw19' : fi (wF mem 15 2 (.int (nI T1))) 15 2 = nI T1 := hS0.1.fi_wF (ci := 1) (u := .int 0) (by decide) rfl
    refine PW.aload_n rfl rfl dX1_popInto_22 ?_
    refine PW.aload_n rfl rfl dX1_popInto_23 ?_
    refine PW.gR hS.1 (by decide) rfl fX1_11 dX1_popInto_24 ?_
    refine PW.aload_n rfl rfl dX1_popInto_27 ?_
    refine PW.gI hS.1 (by decide) rfl (hw19') fX1_18 dX1_popInto_28 ?_
    refine PW.aQ hS.1 (by decide) rfl (fun _ => rfl) rfl (by exact rfl) ⟨by omega, by decide⟩ (qRing (by omega)) dX1_popInto_31 ?_
    refine PW.dV (ci := 0) (j := 0) _ hS.1 (by decide) rfl kX1_22 (x_become hS isN13 (isNr hT10) (by omega) (by omega) (by omega)) rfl rfl (Nat.le_of_ble_eq_true rfl) rfl ⟨by decide, by decide⟩ ⟨Nat.zero_le _, Nat.zero_le _⟩ dX1_popInto_32 (fun v m1 q => ?_)
    obtain ⟨rfl, hS, hA, hv, hp, hd⟩ := q
    have h1' : fi m1 15 1 = nI (K + 1) := by rw [hA.fi (r := 15) ⟨by decide, by decide⟩, fi_wF_ne (Or.inr (by decide))]; exact h1
    refine PW.aload_n rfl rfl dX1_popInto_35 ?_
    refine PW.dup rfl dX1_popInto_36 ?_
    refine PW.gI hS.1 (by decide) rfl (h1') fX1_26 dX1_popInto_37 ?_
    refine PW.iconst (v := nI 1) (by decide) dX1_popInto_40 ?_
    refine PW.isubN (by omega) dX1_popInto_41 ?_
    refine PW.tI hS (by decide) rfl pX1_26 dX1_popInto_42 (fun hS hw42 => ?_)
    refine PW.vret rfl (Nat.le_refl _) (Nat.le_refl _) dX1_popInto_45 ?_
    refine ⟨rfl, hS, ((Ag.wF (fun h => h.1 rfl)).tr (hA.mono (fun q h => h.2))).tr (Ag.wF (fun h => h.1 rfl)), fun i hi => by rw [iv_wF, hv i hi, iv_wF], by rw [fi_wF_ne (Or.inl (by decide)), hp, fi_wF_ne (Or.inl (by omega))], by rw [fi_wF_ne (Or.inl (by decide)), hd, fi_wF_ne (Or.inl (by omega))], by rw [hw42]; rfl, by rw [fi_wF_ne (Or.inr (by decide)), hA.fi (r := 15) ⟨by decide, by decide⟩]; exact hw19'⟩
set_option maxHeartbeats 8000000 in
theorem m_note (hS : St b s sc mem) {K K1 : Nat} (hK : K ≤ 10) (h13 : fi mem 95 13 = nI K) (hK1 : K1 = if K = 10 then 9 else K) : Ret 0 0 0 mX6_note [.ref 95] mem (fun u m1 => u = none ∧ St b s sc m1 ∧ Ag (fun q => q ≠ 95 ∧ q ≠ 104) mem m1 ∧ fi m1 95 13 = nI (K1 + 1) ∧ (∀ j, j ≠ 13 → fv m1 95 j = fv mem 95 j) ∧ (∀ i, i < 8 → iv m1 104 (8 * K1 + i) = iv mem 103 i) ∧ ∀ q, q < 8 * K1 → iv m1 104 q = if K = 10 then iv mem 104 (q + 8) else iv mem 104 q) := by
  have hK9 : K1 ≤ 9 := by rw [hK1]; split <;> omega
  refine Ret.of (by decide) (Nat.le_of_ble_eq_true rfl) fun l G => ?_
  have h48 : ∀ ls m0, St b s sc m0 → Ag (fun q => q ≠ 95 ∧ q ≠ 104) mem m0 → fi m0 95 13 = nI K1 → (∀ j, j ≠ 13 → fv m0 95 j = fv mem 95 j) → (∀ q, q < 8 * K1 → iv m0 104 q = if K = 10 then iv mem 104 (q + 8) else iv mem 104 q) → PW (l, G, mX6_note, pw_rm 0 0 0, 0, 0) 0 0 48 ((0, .ref 95) :: ls) [] m0 (fun u m1 => u = none ∧ St b s sc m1 ∧ Ag (fun q => q ≠ 95 ∧ q ≠ 104) mem m1 ∧ fi m1 95 13 = nI (K1 + 1) ∧ (∀ j, j ≠ 13 → fv m1 95 j = fv mem 95 j) ∧ (∀ i, i < 8 → iv m1 104 (8 * K1 + i) = iv mem 103 i) ∧ ∀ q, q < 8 * K1 → iv m1 104 q = if K = 10 then iv mem 104 (q + 8) else iv mem 104 q) := by
    intro ls m0 hS hA hk hf hah
    refine PW.drop [(0, .ref 95)] (fun q h => by rw [List.mem_singleton.mp h]; exact List.mem_cons_self) ?_
    refine PW.iconst (v := nI 0) (by decide) dX6_note_48 ?_
    refine PW.istore_n rfl (by decide) dX6_note_49 (?_ : PW _ _ _ _ [(0, _), (1, _)] _ _ _)
    refine PW.loop (I := fun j m => St b s sc m ∧ Ag (fun q => q ≠ 95 ∧ q ≠ 104) mem m ∧ fi m 95 13 = nI K1 ∧ (∀ j, j ≠ 13 → fv m 95 j = fv mem 95 j) ∧ (∀ i, i < j → iv m 104 (8 * K1 + i) = iv mem 103 i) ∧ ∀ q, q < 8 * K1 → iv m 104 q = if K = 10 then iv mem 104 (q + 8) else iv mem 104 q) (fun j _ => [(0, .ref 95), (1, .int (nI j))]) (fun _ m => m) 8 (fun j m hj hI ih => ?_) (fun m hI => ?_) m0 ⟨hS, hA, hk, hf, fun i hi => absurd hi (Nat.not_lt_zero _), hah⟩
    · obtain ⟨hS, hA, hk, hf, hn, hah⟩ := hI
      refine PW.iload_n rfl rfl dX6_note_50 ?_
      refine PW.bipush (v := nI 8) (by decide) dX6_note_51 ?_
      refine PW.icmp_geN 82 (by decide) (by first | omega | (split <;> omega)) (by first | omega | (split <;> omega)) dX6_note_53 (fun hc53 => by exfalso; omega) (fun hc53 => ?_)
      refine PW.aload_n rfl rfl dX6_note_56 ?_
      refine PW.gR hS.1 (by decide) rfl fX6_35 dX6_note_57 ?_
      refine PW.bipush (v := nI 8) (by decide) dX6_note_60 ?_
      refine PW.aload_n rfl rfl dX6_note_62 ?_
      refine PW.gI hS.1 (by decide) rfl (hk) fX6_162 dX6_note_63 ?_
      refine PW.imulN dX6_note_66 ?_
      refine PW.iload_n rfl rfl dX6_note_67 ?_
      refine PW.iaddN dX6_note_68 ?_
      refine PW.aload_n rfl rfl dX6_note_69 ?_
      refine PW.gR hS.1 (by decide) rfl fX6_32 dX6_note_70 ?_
      refine PW.iload_n rfl rfl dX6_note_73 ?_
      refine PW.aI hS.1 (by decide) rfl (by exact rfl) ⟨by omega, by decide⟩ (hA.iv (r := 103) ⟨by decide, by decide⟩ j) dX6_note_74 ?_
      refine PW.uI hS (by decide) rfl (by exact rfl) ⟨by omega, by decide⟩ dX6_note_75 (fun hS hw75 => ?_)
      refine PW.iincN rfl (by decide) dX6_note_76 (?_ : PW _ _ _ _ [(0, _), (1, _)] _ _ _)
      refine PW.goto 50 (by decide) dX6_note_79 ?_
      refine ih _ ⟨hS, hA.tr (Ag.wI (fun h => h.2 rfl)), by rw [fi_wI]; exact hk, fun i hi => by rw [fv_wI]; exact hf i hi, fun i hi => ?_, fun q hq => by rw [hw75, if_neg (by omega)]; exact hah q hq⟩
      rw [hw75]
      by_cases e1 : i = j
      · rw [e1, if_pos rfl]
      · rw [if_neg (by omega)]; exact hn i (by omega)
    · obtain ⟨hS, hA, hk, hf, hn, hah⟩ := hI
      refine PW.iload_n rfl rfl dX6_note_50 ?_
      refine PW.bipush (v := nI 8) (by decide) dX6_note_51 ?_
      refine PW.icmp_geN 82 (by decide) (by first | omega | (split <;> omega)) (by first | omega | (split <;> omega)) dX6_note_53 (fun hc53 => ?_) (fun hc53 => by exfalso; omega)
      refine PW.aload_n rfl rfl dX6_note_82 ?_
      refine PW.dup rfl dX6_note_83 ?_
      refine PW.gI hS.1 (by decide) rfl (hk) fX6_162 dX6_note_84 ?_
      refine PW.iconst (v := nI 1) (by decide) dX6_note_87 ?_
      refine PW.iaddN dX6_note_88 ?_
      refine PW.tI hS (by decide) rfl pX6_162 dX6_note_89 (fun hS hw89 => ?_)
      refine PW.vret rfl (Nat.le_refl _) (Nat.le_refl _) dX6_note_92 ?_
      exact ⟨rfl, hS, hA.tr (Ag.wF (fun h => h.1 rfl)), hw89, fun i hi => by rw [fv_wF_ne (Or.inr hi)]; exact hf i hi, fun i hi => by rw [iv_wF]; exact hn i hi, fun q hq => by rw [iv_wF]; exact hah q hq⟩
  show PW _ _ _ _ [(0, _)] _ _ _
  by_cases h10 : K = 10
  · refine PW.aload_n rfl rfl dX6_note_0 ?_
    refine PW.gI hS.1 (by decide) rfl (h13) fX6_162 dX6_note_1 ?_
    refine PW.bipush (v := nI 10) (by decide) dX6_note_4 ?_
    refine PW.icmp_neN 48 (by decide) (by first | omega | (split <;> omega)) (by first | omega | (split <;> omega)) dX6_note_6 (fun hc6 => by exfalso; omega) (fun hc6 => ?_)
    refine PW.iconst (v := nI 0) (by decide) dX6_note_9 ?_
    refine PW.istore_n rfl (by decide) dX6_note_10 (?_ : PW _ _ _ _ [(0, _), (1, _)] _ _ _)
    skip
    refine PW.loop (I := fun j m => St b s sc m ∧ Ag (fun q => q ≠ 104) mem m ∧ (∀ q, q < j → iv m 104 q = iv mem 104 (q + 8)) ∧ ∀ q, j ≤ q → iv m 104 q = iv mem 104 q) (fun j _ => [(0, .ref 95), (1, .int (nI j))]) (fun _ m => m) 72 (fun j m hj hI ih => ?_) (fun m hI => ?_) mem ⟨hS, Ag.rf, fun i hi => absurd hi (Nat.not_lt_zero _), fun _ _ => rfl⟩
    · obtain ⟨hS, hA, hlo, hhi⟩ := hI
      refine PW.iload_n rfl rfl dX6_note_11 ?_
      refine PW.bipush (v := nI 72) (by decide) dX6_note_12 ?_
      refine PW.icmp_geN 38 (by decide) (by first | omega | (split <;> omega)) (by first | omega | (split <;> omega)) dX6_note_14 (fun hc14 => by exfalso; omega) (fun hc14 => ?_)
      refine PW.aload_n rfl rfl dX6_note_17 ?_
      refine PW.gR hS.1 (by decide) rfl fX6_35 dX6_note_18 ?_
      refine PW.iload_n rfl rfl dX6_note_21 ?_
      refine PW.aload_n rfl rfl dX6_note_22 ?_
      refine PW.gR hS.1 (by decide) rfl fX6_35 dX6_note_23 ?_
      refine PW.iload_n rfl rfl dX6_note_26 ?_
      refine PW.bipush (v := nI 8) (by decide) dX6_note_27 ?_
      refine PW.iaddN dX6_note_29 ?_
      refine PW.aI hS.1 (by decide) rfl (by exact rfl) ⟨by omega, by decide⟩ (hhi (j + 8) (by omega)) dX6_note_30 ?_
      refine PW.uI hS (by decide) rfl (by exact rfl) ⟨by omega, by decide⟩ dX6_note_31 (fun hS hw31 => ?_)
      refine PW.iincN rfl (by decide) dX6_note_32 (?_ : PW _ _ _ _ [(0, _), (1, _)] _ _ _)
      refine PW.goto 11 (by decide) dX6_note_35 ?_
      refine ih _ ⟨hS, hA.tr (Ag.wI (fun h => h rfl)), fun q hq => ?_, fun q hq => by rw [hw31, if_neg (by omega)]; exact hhi q (by omega)⟩
      rw [hw31]
      by_cases e1 : q = j
      · rw [if_pos e1, e1]
      · rw [if_neg e1]; exact hlo q (by omega)
    · obtain ⟨hS, hA, hlo, hhi⟩ := hI
      have h13' : fi m 95 13 = nI 10 := by rw [hA.fi (r := 95) (by decide), h13, h10]
      refine PW.iload_n rfl rfl dX6_note_11 ?_
      refine PW.bipush (v := nI 72) (by decide) dX6_note_12 ?_
      refine PW.icmp_geN 38 (by decide) (by first | omega | (split <;> omega)) (by first | omega | (split <;> omega)) dX6_note_14 (fun hc14 => ?_) (fun hc14 => by exfalso; omega)
      refine PW.aload_n rfl rfl dX6_note_38 ?_
      refine PW.dup rfl dX6_note_39 ?_
      refine PW.gI hS.1 (by decide) rfl (h13') fX6_162 dX6_note_40 ?_
      refine PW.iconst (v := nI 1) (by decide) dX6_note_43 ?_
      refine PW.isubN (by omega) dX6_note_44 ?_
      refine PW.tI hS (by decide) rfl pX6_162 dX6_note_45 (fun hS hw45 => ?_)
      exact h48 _ _ hS ((hA.mono (fun q h => h.2)).tr (Ag.wF (fun h => h.1 rfl))) (by rw [hw45, hK1, if_pos h10]) (fun j hj => by rw [fv_wF_ne (Or.inr hj), hA.fv (r := 95) (by decide)]) (fun q hq => by rw [iv_wF, if_pos h10]; exact hlo q (by rw [hK1, if_pos h10] at hq; omega))
  · refine PW.aload_n rfl rfl dX6_note_0 ?_
    refine PW.gI hS.1 (by decide) rfl (h13) fX6_162 dX6_note_1 ?_
    refine PW.bipush (v := nI 10) (by decide) dX6_note_4 ?_
    refine PW.icmp_neN 48 (by decide) (by first | omega | (split <;> omega)) (by first | omega | (split <;> omega)) dX6_note_6 (fun hc6 => ?_) (fun hc6 => by exfalso; omega)
    exact h48 _ _ hS Ag.rf (by rw [h13, hK1, if_neg h10]) (fun _ _ => rfl) (fun q _ => by rw [if_neg h10])
set_option maxHeartbeats 4000000 in
theorem m_undo (hS : St b s sc mem) {K : Nat} (hK : K + 1 ≤ 10) (h13 : fi mem 95 13 = nI (K + 1)) : Ret 0 0 0 mX6_undo [.ref 95] mem (fun u m1 => u = some (.int (nI K)) ∧ St b s sc m1 ∧ Ag (fun q => q ≠ 95 ∧ q ≠ 103) mem m1 ∧ fi m1 95 13 = nI K ∧ (∀ j, j ≠ 13 → fv m1 95 j = fv mem 95 j) ∧ ∀ i, i < 8 → iv m1 103 i = iv mem 104 (8 * K + i)) := by
  refine Ret.of (by decide) (Nat.le_of_ble_eq_true rfl) fun l G => ?_
  show PW _ _ _ _ [(0, _)] _ _ _
  refine PW.aload_n rfl rfl dX6_undo_0 ?_
  refine PW.gI hS.1 (by decide) rfl (h13) fX6_162 dX6_undo_1 ?_
  refine PW.if_neN 10 (by decide) (by first | omega | (split <;> omega)) dX6_undo_4 (fun hc4 => ?_) (fun hc4 => by exfalso; omega)
  refine PW.aload_n rfl rfl dX6_undo_10 ?_
  refine PW.dup rfl dX6_undo_11 ?_
  refine PW.gI hS.1 (by decide) rfl (h13) fX6_162 dX6_undo_12 ?_
  refine PW.iconst (v := nI 1) (by decide) dX6_undo_15 ?_
  refine PW.isubN (by omega) dX6_undo_16 ?_
  refine PW.tI hS (by decide) rfl pX6_162 dX6_undo_17 (fun hS hw17 => ?_)
  refine PW.iconst (v := nI 0) (by decide) dX6_undo_20 ?_
  refine PW.istore_n rfl (by decide) dX6_undo_21 (?_ : PW _ _ _ _ [(0, _), (1, _)] _ _ _)
  skip
  refine PW.loop (I := fun j m => St b s sc m ∧ Ag (fun q => q ≠ 95 ∧ q ≠ 103) mem m ∧ fi m 95 13 = nI K ∧ (∀ j, j ≠ 13 → fv m 95 j = fv mem 95 j) ∧ ∀ i, i < j → iv m 103 i = iv mem 104 (8 * K + i)) (fun j _ => [(0, .ref 95), (1, .int (nI j))]) (fun _ m => m) 8 (fun j m hj hI ih => ?_) (fun m hI => ?_) _ ⟨hS, Ag.wF (fun h => h.1 rfl), hw17, fun j hj => fv_wF_ne (Or.inr hj), fun i hi => absurd hi (Nat.not_lt_zero _)⟩
  · obtain ⟨hS, hA, hk, hf, hn⟩ := hI
    refine PW.iload_n rfl rfl dX6_undo_22 ?_
    refine PW.bipush (v := nI 8) (by decide) dX6_undo_23 ?_
    refine PW.icmp_geN 54 (by decide) (by first | omega | (split <;> omega)) (by first | omega | (split <;> omega)) dX6_undo_25 (fun hc25 => by exfalso; omega) (fun hc25 => ?_)
    refine PW.aload_n rfl rfl dX6_undo_28 ?_
    refine PW.gR hS.1 (by decide) rfl fX6_32 dX6_undo_29 ?_
    refine PW.iload_n rfl rfl dX6_undo_32 ?_
    refine PW.aload_n rfl rfl dX6_undo_33 ?_
    refine PW.gR hS.1 (by decide) rfl fX6_35 dX6_undo_34 ?_
    refine PW.bipush (v := nI 8) (by decide) dX6_undo_37 ?_
    refine PW.aload_n rfl rfl dX6_undo_39 ?_
    refine PW.gI hS.1 (by decide) rfl (hk) fX6_162 dX6_undo_40 ?_
    refine PW.imulN dX6_undo_43 ?_
    refine PW.iload_n rfl rfl dX6_undo_44 ?_
    refine PW.iaddN dX6_undo_45 ?_
    refine PW.aI hS.1 (by decide) rfl (by exact rfl) ⟨by omega, by decide⟩ (hA.iv (r := 104) ⟨by decide, by decide⟩ _) dX6_undo_46 ?_
    refine PW.uI hS (by decide) rfl (by exact rfl) ⟨by omega, by decide⟩ dX6_undo_47 (fun hS hw47 => ?_)
    refine PW.iincN rfl (by decide) dX6_undo_48 (?_ : PW _ _ _ _ [(0, _), (1, _)] _ _ _)
    refine PW.goto 22 (by decide) dX6_undo_51 ?_
    refine ih _ ⟨hS, hA.tr (Ag.wI (fun h => h.2 rfl)), by rw [fi_wI]; exact hk, fun i hi => by rw [fv_wI]; exact hf i hi, fun i hi => ?_⟩
    rw [hw47]
    by_cases e1 : i = j
    · rw [e1, if_pos rfl]
    · rw [if_neg e1]; exact hn i (by omega)
  · obtain ⟨hS, hA, hk, hf, hn⟩ := hI
    refine PW.iload_n rfl rfl dX6_undo_22 ?_
    refine PW.bipush (v := nI 8) (by decide) dX6_undo_23 ?_
    refine PW.icmp_geN 54 (by decide) (by first | omega | (split <;> omega)) (by first | omega | (split <;> omega)) dX6_undo_25 (fun hc25 => ?_) (fun hc25 => by exfalso; omega)
    refine PW.aload_n rfl rfl dX6_undo_54 ?_
    refine PW.gI hS.1 (by decide) rfl (hk) fX6_162 dX6_undo_55 ?_
    refine PW.iret rfl (Nat.le_refl _) (Nat.le_refl _) dX6_undo_58 ?_
    exact ⟨rfl, hS, hA, hk, hf, hn⟩
end UNDO
