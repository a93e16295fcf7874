/-! ===== keep, back: class and model ===== -/
def IX (mem : pw_M) (n : Nat) (kp : Nat → Bool) (g : Hst) : Prop := ∀ i, i < 2 → iv mem 42 i = bI (kp i) ∧ (kp i = true → XN mem (38 + 2 * i) n (g i).1 (g i).2.1 (g i).2.2)
def IM (mem : pw_M) (n : Nat) (kp : Nat → Bool) (g : Hst) : Prop := ∀ i, i < 2 → iv mem 116 i = bI (kp i) ∧ (kp i = true → (∀ t, t < n → iv mem 117 (8 * i + t) = nI ((g i).1 t)) ∧ iv mem 117 (8 * i + 6) = (g i).2.1 ∧ iv mem 117 (8 * i + 7) = nI (g i).2.2)
def kset (kp : Nat → Bool) (i : Nat) : Nat → Bool := fun j => if j = i then true else kp j
def gset (g : Hst) (i : Nat) (x : (Nat → Nat) × Int32 × Nat) : Hst := fun j => if j = i then x else g j
theorem IX.ag {mem m : pw_M} {n : Nat} {kp : Nat → Bool} {g : Hst} {A : Nat → Prop} (h : IX mem n kp g) (hA : Ag A mem m) (h42 : A 42) (hq : ∀ q, 38 ≤ q → q ≤ 41 → A q) : IX m n kp g :=
  fun i hi => ⟨by rw [hA.iv h42]; exact (h i hi).1, fun hk => ((h i hi).2 hk).ag hA (hq _ (by omega) (by omega)) (hq _ (by omega) (by omega))⟩
theorem IM.ag {mem m : pw_M} {n : Nat} {kp : Nat → Bool} {g : Hst} {A : Nat → Prop} (h : IM mem n kp g) (hA : Ag A mem m) (h6 : A 116) (h7 : A 117) : IM m n kp g :=
  fun i hi => ⟨by rw [hA.iv h6]; exact (h i hi).1, fun hk => ⟨fun t ht => by rw [hA.iv h7]; exact ((h i hi).2 hk).1 t ht, by rw [hA.iv h7]; exact ((h i hi).2 hk).2.1, by rw [hA.iv h7]; exact ((h i hi).2 hk).2.2⟩⟩
section KEEP
variable {b s : Nat} {sc : pw_E} {mem : pw_M} {R : DR} {w : Nat → Nat} {p : Int32} {d : Nat} {e n K T : Nat} {h g : Hst} {kp : Nat → Bool}
set_option maxHeartbeats 4000000 in
theorem x_keep_bad (hS : St b s sc mem) (i : Int32) (hc : inR i 2 = false) : Rf 2 mX5_keep [.ref 9, .int i] mem (some (.int (-1))) mem := by
  refine Ret.of (by decide) (Nat.le_of_ble_eq_true rfl) fun l G => ?_
  show PW _ _ _ _ [(0, _), (1, _)] _ _ _
  refine PW.iload_n rfl rfl dX5_keep_0 ?_
  refine PW.iconst (v := nI 0) (by decide) dX5_keep_1 ?_
  refine PW.iconst (v := nI 1) (by decide) dX5_keep_2 ?_
  refine PW.cS _ kX5_71 (x_inR i (h := 1) (by decide) mem) rfl rfl (Nat.le_of_ble_eq_true rfl) ⟨by decide, by decide⟩ ⟨Nat.zero_le _, Nat.zero_le _⟩ dX5_keep_3 ?_
  refine PW.if_neB 11 (by decide) dX5_keep_6 (fun hc6 => by (rw [hc] at hc6; cases hc6)) (fun hc6 => ?_)
  refine PW.iconst (v := -1) (by decide) dX5_keep_9 ?_
  refine PW.iret rfl (Nat.le_refl _) (Nat.le_refl _) dX5_keep_10 ?_
  exact ⟨rfl, rfl⟩
set_option maxHeartbeats 4000000 in
theorem x_keep_ok (hS : St b s sc mem) (hn : n ≤ 6) (hN : XN mem 13 n w p d) (hI : IX mem n kp g) {i : Nat} (hi : i < 2) : Ret 2 0 0 mX5_keep [.ref 9, .int (nI i)] mem (fun u m1 => u = some (.int (nI d)) ∧ St b s sc m1 ∧ Ag (fun q => q ≠ 42 ∧ (q < 38 ∨ 41 < q)) mem m1 ∧ IX m1 n (kset kp i) (gset g i (w, p, d))) := by
  refine Ret.of (by decide) (Nat.le_of_ble_eq_true rfl) fun l G => ?_
  show PW _ _ _ _ [(0, _), (1, _)] _ _ _
  refine PW.iload_n rfl rfl dX5_keep_0 ?_
  refine PW.iconst (v := nI 0) (by decide) dX5_keep_1 ?_
  refine PW.iconst (v := nI 1) (by decide) dX5_keep_2 ?_
  refine PW.cS _ kX5_71 (x_inR (nI i) (h := 1) (by decide) mem) rfl rfl (Nat.le_of_ble_eq_true rfl) ⟨by decide, by decide⟩ ⟨Nat.zero_le _, Nat.zero_le _⟩ dX5_keep_3 ?_
  refine PW.if_neB 11 (by decide) dX5_keep_6 (fun hc6 => ?_) (fun hc6 => by (rw [inR_nI (by omega) (by decide)] at hc6; cases hc6))
  refine PW.aload_n rfl rfl dX5_keep_11 ?_
  refine PW.gR hS.1 (by decide) rfl fX5_30 dX5_keep_12 ?_
  refine PW.iload_n rfl rfl dX5_keep_15 ?_
  refine PW.aQ hS.1 (by decide) rfl (fun _ => rfl) rfl (by exact rfl) ⟨by omega, by decide⟩ (qImg (by omega)) dX5_keep_16 ?_
  refine PW.aload_n rfl rfl dX5_keep_17 ?_
  refine PW.gR hS.1 (by decide) rfl fX5_19 dX5_keep_18 ?_
  refine PW.dV (ci := 0) (j := 0) _ hS.1 (isNi (by omega)).nine (skN0 (isNi (by omega))) kX5_254 (x_become hS (isNi hi) isN13 (by omega) (by omega) (by omega)) rfl rfl (Nat.le_of_ble_eq_true rfl) rfl ⟨by decide, by decide⟩ ⟨Nat.zero_le _, Nat.zero_le _⟩ dX5_keep_21 (fun v m1 q => ?_)
  obtain ⟨rfl, hS, hA, hv, hp, hd⟩ := q
  refine PW.aload_n rfl rfl dX5_keep_24 ?_
  refine PW.gR hS.1 (by decide) rfl fX5_34 dX5_keep_25 ?_
  refine PW.iload_n rfl rfl dX5_keep_28 ?_
  refine PW.iconst (v := nI 1) (by decide) dX5_keep_29 ?_
  refine PW.uZ hS (by decide) rfl (by exact rfl) ⟨by omega, by decide⟩ (by first | exact bI_vp _ | rfl) dX5_keep_30 (fun hS hw30 => ?_)
  refine PW.aload_n rfl rfl dX5_keep_31 ?_
  refine PW.gR hS.1 (by decide) rfl fX5_19 dX5_keep_32 ?_
  refine PW.gI hS.1 (by decide) rfl (fi_wI.trans ((hA.fi (r := 13) ⟨by omega, by omega⟩ 2).trans hN.2.2)) fX5_150 dX5_keep_35 ?_
  refine PW.iret rfl (Nat.le_refl _) (Nat.le_refl _) dX5_keep_38 ?_
  refine ⟨rfl, hS, (hA.mono (fun q h => ⟨by omega, by omega⟩)).tr (Ag.wI (fun h => h.1 rfl)), fun j hj => ⟨?_, fun hk => ?_⟩⟩
  · rw [hw30]; unfold kset; split
    · rfl
    · rw [hA.iv (r := 42) ⟨by omega, by omega⟩]; exact (hI j hj).1
  · unfold gset; unfold kset at hk
    by_cases hji : j = i
    · rw [if_pos hji, hji]
      exact ⟨fun t ht => by rw [iv_wI_ne (by omega), hv t (by omega)]; exact hN.1 t ht, fi_wI.trans (hp.trans hN.2.1), fi_wI.trans (hd.trans hN.2.2)⟩
    · rw [if_neg hji]; rw [if_neg hji] at hk
      have hq := ((hI j hj).2 hk).ag hA ⟨by omega, by omega⟩ ⟨by omega, by omega⟩
      exact hq.ag (Ag.wI (A := fun q => q ≠ 42) (fun h => h rfl)) (by omega) (by omega)
set_option maxHeartbeats 4000000 in
theorem x_back_bad (hS : St b s sc mem) (i : Int32) (hc : inR i 2 = false) : Rf 2 mX5_back [.ref 9, .int i] mem (some (.int (-1))) mem := by
  refine Ret.of (by decide) (Nat.le_of_ble_eq_true rfl) fun l G => ?_
  show PW _ _ _ _ [(0, _), (1, _)] _ _ _
  refine PW.iload_n rfl rfl dX5_back_0 ?_
  refine PW.iconst (v := nI 0) (by decide) dX5_back_1 ?_
  refine PW.iconst (v := nI 1) (by decide) dX5_back_2 ?_
  refine PW.cS _ kX5_71 (x_inR i (h := 1) (by decide) mem) rfl rfl (Nat.le_of_ble_eq_true rfl) ⟨by decide, by decide⟩ ⟨Nat.zero_le _, Nat.zero_le _⟩ dX5_back_3 ?_
  refine PW.if_neB 11 (by decide) dX5_back_6 (fun hc6 => by (rw [hc] at hc6; cases hc6)) (fun hc6 => ?_)
  refine PW.iconst (v := -1) (by decide) dX5_back_9 ?_
  refine PW.iret rfl (Nat.le_refl _) (Nat.le_refl _) dX5_back_10 ?_
  exact ⟨rfl, rfl⟩
set_option maxHeartbeats 4000000 in
theorem x_back_no (hS : St b s sc mem) (hI : IX mem n kp g) {i : Nat} (hi : i < 2) (hk : kp i = false) : Rf 2 mX5_back [.ref 9, .int (nI i)] mem (some (.int (-2))) mem := by
  have e1 := (hI i hi).1
  rw [hk] at e1
  refine Ret.of (by decide) (Nat.le_of_ble_eq_true rfl) fun l G => ?_
  show PW _ _ _ _ [(0, _), (1, _)] _ _ _
  refine PW.iload_n rfl rfl dX5_back_0 ?_
  refine PW.iconst (v := nI 0) (by decide) dX5_back_1 ?_
  refine PW.iconst (v := nI 1) (by decide) dX5_back_2 ?_
  refine PW.cS _ kX5_71 (x_inR (nI i) (h := 1) (by decide) mem) rfl rfl (Nat.le_of_ble_eq_true rfl) ⟨by decide, by decide⟩ ⟨Nat.zero_le _, Nat.zero_le _⟩ dX5_back_3 ?_
  refine PW.if_neB 11 (by decide) dX5_back_6 (fun hc6 => ?_) (fun hc6 => by (first | (rw [inR_nI (by omega) (by decide)] at hc6; cases hc6) | cases hc6))
  refine PW.aload_n rfl rfl dX5_back_11 ?_
  refine PW.gR hS.1 (by decide) rfl fX5_34 dX5_back_12 ?_
  refine PW.iload_n rfl rfl dX5_back_15 ?_
  refine PW.aZ hS.1 (by decide) rfl (by exact rfl) ⟨by omega, by decide⟩ (e1) dX5_back_16 ?_
  refine PW.if_neB 23 (by decide) dX5_back_17 (fun hc17 => by (first | (rw [inR_nI (by omega) (by decide)] at hc17; cases hc17) | cases hc17)) (fun hc17 => ?_)
  refine PW.bipush (v := -2) (by decide) dX5_back_20 ?_
  refine PW.iret rfl (Nat.le_refl _) (Nat.le_refl _) dX5_back_22 ?_
  exact ⟨rfl, rfl⟩
set_option maxHeartbeats 4000000 in
theorem x_back_ok (hS : St b s sc mem) (hn : n ≤ 6) (hI : IX mem n kp g) (hT : fi mem 15 2 = nI T ∧ T < 10) {i : Nat} (hi : i < 2) (hk : kp i = true) : Ret 2 0 0 mX5_back [.ref 9, .int (nI i)] mem (fun u m1 => u = some (.int (nI (g i).2.2)) ∧ St b s sc m1 ∧ Ag (fun q => q ≠ 13 ∧ q ≠ 14 ∧ q ≠ 15) mem m1 ∧ XN m1 13 n (g i).1 (g i).2.1 (g i).2.2 ∧ HX m1 n 0 T h) := by
  have e1 := (hI i hi).1
  rw [hk] at e1
  obtain ⟨f1, f2, f3⟩ := (hI i hi).2 hk
  refine Ret.of (by decide) (Nat.le_of_ble_eq_true rfl) fun l G => ?_
  show PW _ _ _ _ [(0, _), (1, _)] _ _ _
  refine PW.iload_n rfl rfl dX5_back_0 ?_
  refine PW.iconst (v := nI 0) (by decide) dX5_back_1 ?_
  refine PW.iconst (v := nI 1) (by decide) dX5_back_2 ?_
  refine PW.cS _ kX5_71 (x_inR (nI i) (h := 1) (by decide) mem) rfl rfl (Nat.le_of_ble_eq_true rfl) ⟨by decide, by decide⟩ ⟨Nat.zero_le _, Nat.zero_le _⟩ dX5_back_3 ?_
  refine PW.if_neB 11 (by decide) dX5_back_6 (fun hc6 => ?_) (fun hc6 => by (first | (rw [inR_nI (by omega) (by decide)] at hc6; cases hc6) | cases hc6))
  refine PW.aload_n rfl rfl dX5_back_11 ?_
  refine PW.gR hS.1 (by decide) rfl fX5_34 dX5_back_12 ?_
  refine PW.iload_n rfl rfl dX5_back_15 ?_
  refine PW.aZ hS.1 (by decide) rfl (by exact rfl) ⟨by omega, by decide⟩ (e1) dX5_back_16 ?_
  refine PW.if_neB 23 (by decide) dX5_back_17 (fun hc17 => ?_) (fun hc17 => by (first | (rw [inR_nI (by omega) (by decide)] at hc17; cases hc17) | cases hc17))
  refine PW.aload_n rfl rfl dX5_back_23 ?_
  refine PW.gR hS.1 (by decide) rfl fX5_19 dX5_back_24 ?_
  refine PW.aload_n rfl rfl dX5_back_27 ?_
  refine PW.gR hS.1 (by decide) rfl fX5_30 dX5_back_28 ?_
  refine PW.iload_n rfl rfl dX5_back_31 ?_
  refine PW.aQ hS.1 (by decide) rfl (fun _ => rfl) rfl (by exact rfl) ⟨by omega, by decide⟩ (qImg (by omega)) dX5_back_32 ?_
  refine PW.dV (ci := 0) (j := 0) _ hS.1 (by decide) rfl kX5_254 (x_become hS isN13 (isNi hi) (by omega) (by omega) (by omega)) rfl rfl (Nat.le_of_ble_eq_true rfl) rfl ⟨by decide, by decide⟩ ⟨Nat.zero_le _, Nat.zero_le _⟩ dX5_back_33 (fun v m1 q => ?_)
  obtain ⟨rfl, hS, hA, hv, hp, hd⟩ := q
  refine PW.aload_n rfl rfl dX5_back_36 ?_
  refine PW.gR hS.1 (by decide) rfl fX5_26 dX5_back_37 ?_
  refine PW.iconst (v := nI 0) (by decide) dX5_back_40 ?_
  refine PW.tI hS (by decide) rfl pX5_90 dX5_back_41 (fun hS hw41 => ?_)
  refine PW.aload_n rfl rfl dX5_back_44 ?_
  refine PW.gR hS.1 (by decide) rfl fX5_19 dX5_back_45 ?_
  refine PW.gI hS.1 (by decide) rfl ((fi_wF_ne (Or.inl (by decide))).trans (hd.trans f3)) fX5_150 dX5_back_48 ?_
  refine PW.iret rfl (Nat.le_refl _) (Nat.le_refl _) dX5_back_51 ?_
  refine ⟨rfl, hS, (hA.mono (fun q h => ⟨h.1, h.2.1⟩)).tr (Ag.wF (fun h => h.2.2 rfl)), ⟨fun t ht => ?_, ?_, ?_⟩, by omega, hT.2, hw41, ?_, fun i hi => absurd hi (Nat.not_lt_zero _)⟩
  · rw [iv_wF, hv t (by omega)]; exact f1 t ht
  · rw [fi_wF_ne (Or.inl (by decide))]; exact hp.trans f2
  · rw [fi_wF_ne (Or.inl (by decide))]; exact hd.trans f3
  · rw [fi_wF_ne (Or.inr (by decide)), hA.fi (r := 15) ⟨by decide, by decide⟩]; exact hT.1
set_option maxHeartbeats 4000000 in
theorem m_keep_bad (hS : St b s sc mem) (i : Int32) (hc : inR i 2 = false) : Rf 2 mX6_keep [.ref 95, .int i] mem (some (.int (-1))) mem := by
  refine Ret.of (by decide) (Nat.le_of_ble_eq_true rfl) fun l G => ?_
  show PW _ _ _ _ [(0, _), (1, _)] _ _ _
  refine PW.iload_n rfl rfl dX6_keep_0 ?_
  refine PW.i2l dX6_keep_1 ?_
  refine PW.lconst (v := 0) (by decide) dX6_keep_2 ?_
  refine PW.lconst (v := 1) (by decide) dX6_keep_3 ?_
  refine PW.cS _ kX6_82 (m_inR i (h := 1) (n := 2) rfl mem) rfl rfl (Nat.le_of_ble_eq_true rfl) ⟨by decide, by decide⟩ ⟨Nat.zero_le _, Nat.zero_le _⟩ dX6_keep_4 ?_
  refine PW.if_neB 12 (by decide) dX6_keep_7 (fun hc7 => by (rw [hc] at hc7; cases hc7)) (fun hc7 => ?_)
  refine PW.iconst (v := -1) (by decide) dX6_keep_10 ?_
  refine PW.iret rfl (Nat.le_refl _) (Nat.le_refl _) dX6_keep_11 ?_
  exact ⟨rfl, rfl⟩
set_option maxHeartbeats 4000000 in
theorem m_keep_ok (hS : St b s sc mem) (hn : n ≤ 6) (hN : MN mem n w p d) (hI : IM mem n kp g) {i : Nat} (hi : i < 2) : Ret 2 0 0 mX6_keep [.ref 95, .int (nI i)] mem (fun u m1 => u = some (.int (nI d)) ∧ St b s sc m1 ∧ Ag (fun q => q ≠ 116 ∧ q ≠ 117) mem m1 ∧ IM m1 n (kset kp i) (gset g i (w, p, d))) := by
  refine Ret.of (by decide) (Nat.le_of_ble_eq_true rfl) fun l G => ?_
  show PW _ _ _ _ [(0, _), (1, _)] _ _ _
  refine PW.iload_n rfl rfl dX6_keep_0 ?_
  refine PW.i2l dX6_keep_1 ?_
  refine PW.lconst (v := 0) (by decide) dX6_keep_2 ?_
  refine PW.lconst (v := 1) (by decide) dX6_keep_3 ?_
  refine PW.cS _ kX6_82 (m_inR (nI i) (h := 1) (n := 2) rfl mem) rfl rfl (Nat.le_of_ble_eq_true rfl) ⟨by decide, by decide⟩ ⟨Nat.zero_le _, Nat.zero_le _⟩ dX6_keep_4 ?_
  refine PW.if_neB 12 (by decide) dX6_keep_7 (fun hc7 => ?_) (fun hc7 => by (rw [inR_nI (by omega) (by decide)] at hc7; cases hc7))
  refine PW.iconst (v := nI 0) (by decide) dX6_keep_12 ?_
  refine PW.istore_n rfl (by decide) dX6_keep_13 (?_ : PW _ _ _ _ [(0, _), (1, _), (2, _)] _ _ _)
  skip
  refine PW.loop (I := fun j m => St b s sc m ∧ Ag (fun q => q ≠ 117) mem m ∧ (∀ q, iv m 117 q = if 8 * i ≤ q ∧ q < 8 * i + j then iv mem 103 (q - 8 * i) else iv mem 117 q)) (fun j _ => [(0, .ref 95), (1, .int (nI i)), (2, .int (nI j))]) (fun _ m => m) 8 (fun j m hj hI ih => ?_) (fun m hI => ?_) mem ⟨hS, Ag.rf, fun q => by rw [if_neg (by omega)]⟩
  · obtain ⟨hS, hA, hv⟩ := hI
    refine PW.iload_n rfl rfl dX6_keep_14 ?_
    refine PW.bipush (v := nI 8) (by decide) dX6_keep_15 ?_
    refine PW.icmp_geN 43 (by decide) (by first | omega | (split <;> omega)) (by first | omega | (split <;> omega)) dX6_keep_17 (fun hc17 => by (exfalso; omega)) (fun hc17 => ?_)
    refine PW.aload_n rfl rfl dX6_keep_20 ?_
    refine PW.gR hS.1 (by decide) rfl fX6_75 dX6_keep_21 ?_
    refine PW.bipush (v := nI 8) (by decide) dX6_keep_24 ?_
    refine PW.iload_n rfl rfl dX6_keep_26 ?_
    refine PW.imulN dX6_keep_27 ?_
    refine PW.iload_n rfl rfl dX6_keep_28 ?_
    refine PW.iaddN dX6_keep_29 ?_
    refine PW.aload_n rfl rfl dX6_keep_30 ?_
    refine PW.gR hS.1 (by decide) rfl fX6_32 dX6_keep_31 ?_
    refine PW.iload_n rfl rfl dX6_keep_34 ?_
    refine PW.aI hS.1 (by decide) rfl (by first | exact (congrArg nI rfl) | exact rfl) ⟨by omega, by decide⟩ (hA.iv (r := 103) (by decide) _) dX6_keep_35 ?_
    refine PW.uI hS (by decide) rfl (by first | exact (congrArg nI rfl) | exact rfl) ⟨by omega, by decide⟩ dX6_keep_36 (fun hS hw36 => ?_)
    refine PW.iincN rfl (by decide) dX6_keep_37 (?_ : PW _ _ _ _ [(0, _), (1, _), (2, _)] _ _ _)
    refine PW.goto 14 (by decide) dX6_keep_40 ?_
    refine ih _ ⟨hS, hA.tr (Ag.wI (fun h => h rfl)), fun q => ?_⟩
    rw [hw36]
    by_cases hq : q = 8 * i + j
    · rw [if_pos hq, if_pos ⟨by omega, by omega⟩, hq, Nat.add_sub_cancel_left]
    · rw [if_neg hq, hv]
      by_cases hc : 8 * i ≤ q ∧ q < 8 * i + j
      · rw [if_pos hc, if_pos ⟨hc.1, by omega⟩]
      · rw [if_neg hc, if_neg (by omega)]
  · obtain ⟨hS, hA, hv⟩ := hI
    refine PW.iload_n rfl rfl dX6_keep_14 ?_
    refine PW.bipush (v := nI 8) (by decide) dX6_keep_15 ?_
    refine PW.icmp_geN 43 (by decide) (by first | omega | (split <;> omega)) (by first | omega | (split <;> omega)) dX6_keep_17 (fun hc17 => ?_) (fun hc17 => by (exfalso; omega))
    refine PW.aload_n rfl rfl dX6_keep_43 ?_
    refine PW.gR hS.1 (by decide) rfl fX6_72 dX6_keep_44 ?_
    refine PW.iload_n rfl rfl dX6_keep_47 ?_
    refine PW.iconst (v := nI 1) (by decide) dX6_keep_48 ?_
    refine PW.uZ hS (by decide) rfl (by first | exact (congrArg nI rfl) | exact rfl) ⟨by omega, by decide⟩ (by first | exact bI_vp _ | rfl) dX6_keep_49 (fun hS hw49 => ?_)
    refine PW.aload_n rfl rfl dX6_keep_50 ?_
    refine PW.gR hS.1 (by decide) rfl fX6_32 dX6_keep_51 ?_
    refine PW.bipush (v := nI 7) (by decide) dX6_keep_54 ?_
    refine PW.aI hS.1 (by decide) rfl (by first | exact (congrArg nI rfl) | exact rfl) ⟨by omega, by decide⟩ ((iv_wI_ne (by decide)).trans ((hA.iv (r := 103) (by decide) 7).trans hN.2.2)) dX6_keep_56 ?_
    refine PW.iret rfl (Nat.le_refl _) (Nat.le_refl _) dX6_keep_57 ?_
    refine ⟨rfl, hS, (hA.mono (fun q h => h.2)).tr (Ag.wI (fun h => h.1 rfl)), fun j hj => ⟨?_, fun hk => ?_⟩⟩
    · rw [hw49]; unfold kset; split
      · rfl
      · rw [hA.iv (r := 116) (by decide)]; exact (hI j hj).1
    · unfold gset; unfold kset at hk
      by_cases hji : j = i
      · rw [if_pos hji, hji]
        have hz : ∀ t, t < 8 → iv (wI m 116 i 1) 117 (8 * i + t) = iv mem 103 t := fun t ht => by rw [iv_wI_ne (by decide), hv, if_pos ⟨by omega, by omega⟩, Nat.add_sub_cancel_left]
        exact ⟨fun t ht => (hz t (by omega)).trans (hN.1 t ht), (hz 6 (by decide)).trans hN.2.1, (hz 7 (by decide)).trans hN.2.2⟩
      · rw [if_neg hji]; rw [if_neg hji] at hk
        obtain ⟨f1, f2, f3⟩ := (hI j hj).2 hk
        have hz : ∀ t, t < 8 → iv (wI m 116 i 1) 117 (8 * j + t) = iv mem 117 (8 * j + t) := fun t ht => by rw [iv_wI_ne (by decide), hv, if_neg (by omega)]
        exact ⟨fun t ht => (hz t (by omega)).trans (f1 t ht), (hz 6 (by decide)).trans f2, (hz 7 (by decide)).trans f3⟩
set_option maxHeartbeats 4000000 in
theorem m_back_bad (hS : St b s sc mem) (i : Int32) (hc : inR i 2 = false) : Rf 2 mX6_back [.ref 95, .int i] mem (some (.int (-1))) mem := by
  refine Ret.of (by decide) (Nat.le_of_ble_eq_true rfl) fun l G => ?_
  show PW _ _ _ _ [(0, _), (1, _)] _ _ _
  refine PW.iload_n rfl rfl dX6_back_0 ?_
  refine PW.i2l dX6_back_1 ?_
  refine PW.lconst (v := 0) (by decide) dX6_back_2 ?_
  refine PW.lconst (v := 1) (by decide) dX6_back_3 ?_
  refine PW.cS _ kX6_82 (m_inR i (h := 1) (n := 2) rfl mem) rfl rfl (Nat.le_of_ble_eq_true rfl) ⟨by decide, by decide⟩ ⟨Nat.zero_le _, Nat.zero_le _⟩ dX6_back_4 ?_
  refine PW.if_neB 12 (by decide) dX6_back_7 (fun hc7 => by (rw [hc] at hc7; cases hc7)) (fun hc7 => ?_)
  refine PW.iconst (v := -1) (by decide) dX6_back_10 ?_
  refine PW.iret rfl (Nat.le_refl _) (Nat.le_refl _) dX6_back_11 ?_
  exact ⟨rfl, rfl⟩
set_option maxHeartbeats 4000000 in
theorem m_back_no (hS : St b s sc mem) (hI : IM mem n kp g) {i : Nat} (hi : i < 2) (hk : kp i = false) : Rf 2 mX6_back [.ref 95, .int (nI i)] mem (some (.int (-2))) mem := by
  have e1 := (hI i hi).1
  rw [hk] at e1
  refine Ret.of (by decide) (Nat.le_of_ble_eq_true rfl) fun l G => ?_
  show PW _ _ _ _ [(0, _), (1, _)] _ _ _
  refine PW.iload_n rfl rfl dX6_back_0 ?_
  refine PW.i2l dX6_back_1 ?_
  refine PW.lconst (v := 0) (by decide) dX6_back_2 ?_
  refine PW.lconst (v := 1) (by decide) dX6_back_3 ?_
  refine PW.cS _ kX6_82 (m_inR (nI i) (h := 1) (n := 2) rfl mem) rfl rfl (Nat.le_of_ble_eq_true rfl) ⟨by decide, by decide⟩ ⟨Nat.zero_le _, Nat.zero_le _⟩ dX6_back_4 ?_
  refine PW.if_neB 12 (by decide) dX6_back_7 (fun hc7 => ?_) (fun hc7 => by (first | (rw [inR_nI (by omega) (by decide)] at hc7; cases hc7) | cases hc7))
  refine PW.aload_n rfl rfl dX6_back_12 ?_
  refine PW.gR hS.1 (by decide) rfl fX6_72 dX6_back_13 ?_
  refine PW.iload_n rfl rfl dX6_back_16 ?_
  refine PW.aZ hS.1 (by decide) rfl (by exact rfl) ⟨by omega, by decide⟩ (e1) dX6_back_17 ?_
  refine PW.if_neB 24 (by decide) dX6_back_18 (fun hc18 => by (first | (rw [inR_nI (by omega) (by decide)] at hc18; cases hc18) | cases hc18)) (fun hc18 => ?_)
  refine PW.bipush (v := -2) (by decide) dX6_back_21 ?_
  refine PW.iret rfl (Nat.le_refl _) (Nat.le_refl _) dX6_back_23 ?_
  exact ⟨rfl, rfl⟩
set_option maxHeartbeats 4000000 in
theorem m_back_ok (hS : St b s sc mem) (hn : n ≤ 6) (hI : IM mem n kp g) {i : Nat} (hi : i < 2) (hk : kp i = true) : Ret 2 0 0 mX6_back [.ref 95, .int (nI i)] mem (fun u m1 => u = some (.int (nI (g i).2.2)) ∧ St b s sc m1 ∧ Ag (fun q => q ≠ 95 ∧ q ≠ 103) mem m1 ∧ (∀ j, j ≠ 13 → fv m1 95 j = fv mem 95 j) ∧ MN m1 n (g i).1 (g i).2.1 (g i).2.2 ∧ HM m1 n 0 h) := by
  have e1 := (hI i hi).1
  rw [hk] at e1
  obtain ⟨f1, f2, f3⟩ := (hI i hi).2 hk
  refine Ret.of (by decide) (Nat.le_of_ble_eq_true rfl) fun l G => ?_
  show PW _ _ _ _ [(0, _), (1, _)] _ _ _
  refine PW.iload_n rfl rfl dX6_back_0 ?_
  refine PW.i2l dX6_back_1 ?_
  refine PW.lconst (v := 0) (by decide) dX6_back_2 ?_
  refine PW.lconst (v := 1) (by decide) dX6_back_3 ?_
  refine PW.cS _ kX6_82 (m_inR (nI i) (h := 1) (n := 2) rfl mem) rfl rfl (Nat.le_of_ble_eq_true rfl) ⟨by decide, by decide⟩ ⟨Nat.zero_le _, Nat.zero_le _⟩ dX6_back_4 ?_
  refine PW.if_neB 12 (by decide) dX6_back_7 (fun hc7 => ?_) (fun hc7 => by (first | (rw [inR_nI (by omega) (by decide)] at hc7; cases hc7) | cases hc7))
  refine PW.aload_n rfl rfl dX6_back_12 ?_
  refine PW.gR hS.1 (by decide) rfl fX6_72 dX6_back_13 ?_
  refine PW.iload_n rfl rfl dX6_back_16 ?_
  refine PW.aZ hS.1 (by decide) rfl (by exact rfl) ⟨by omega, by decide⟩ (e1) dX6_back_17 ?_
  refine PW.if_neB 24 (by decide) dX6_back_18 (fun hc18 => ?_) (fun hc18 => by (first | (rw [inR_nI (by omega) (by decide)] at hc18; cases hc18) | cases hc18))
  refine PW.iconst (v := nI 0) (by decide) dX6_back_24 ?_
  refine PW.istore_n rfl (by decide) dX6_back_25 (?_ : PW _ _ _ _ [(0, _), (1, _), (2, _)] _ _ _)
  skip
  refine PW.loop (I := fun j m => St b s sc m ∧ Ag (fun q => q ≠ 103) mem m ∧ (∀ q, iv m 103 q = if q < j then iv mem 117 (8 * i + q) else iv mem 103 q)) (fun j _ => [(0, .ref 95), (1, .int (nI i)), (2, .int (nI j))]) (fun _ m => m) 8 (fun j m hj hI ih => ?_) (fun m hI => ?_) mem ⟨hS, Ag.rf, fun q => by rw [if_neg (by omega)]⟩
  · obtain ⟨hS, hA, hv⟩ := hI
    refine PW.iload_n rfl rfl dX6_back_26 ?_
    refine PW.bipush (v := nI 8) (by decide) dX6_back_27 ?_
    refine PW.icmp_geN 55 (by decide) (by first | omega | (split <;> omega)) (by first | omega | (split <;> omega)) dX6_back_29 (fun hc29 => by (exfalso; omega)) (fun hc29 => ?_)
    refine PW.aload_n rfl rfl dX6_back_32 ?_
    refine PW.gR hS.1 (by decide) rfl fX6_32 dX6_back_33 ?_
    refine PW.iload_n rfl rfl dX6_back_36 ?_
    refine PW.aload_n rfl rfl dX6_back_37 ?_
    refine PW.gR hS.1 (by decide) rfl fX6_75 dX6_back_38 ?_
    refine PW.bipush (v := nI 8) (by decide) dX6_back_41 ?_
    refine PW.iload_n rfl rfl dX6_back_43 ?_
    refine PW.imulN dX6_back_44 ?_
    refine PW.iload_n rfl rfl dX6_back_45 ?_
    refine PW.iaddN dX6_back_46 ?_
    refine PW.aI hS.1 (by decide) rfl (by exact rfl) ⟨by omega, by decide⟩ (hA.iv (r := 117) (by decide) _) dX6_back_47 ?_
    refine PW.uI hS (by decide) rfl (by exact rfl) ⟨by omega, by decide⟩ dX6_back_48 (fun hS hw48 => ?_)
    refine PW.iincN rfl (by decide) dX6_back_49 (?_ : PW _ _ _ _ [(0, _), (1, _), (2, _)] _ _ _)
    refine PW.goto 26 (by decide) dX6_back_52 ?_
    refine ih _ ⟨hS, hA.tr (Ag.wI (fun h => h rfl)), fun q => ?_⟩
    rw [hw48]
    by_cases hq : q = j
    · rw [if_pos hq, if_pos (by omega), hq]
    · rw [if_neg hq, hv]
      by_cases hc : q < j
      · rw [if_pos hc, if_pos (by omega)]
      · rw [if_neg hc, if_neg (by omega)]
  · obtain ⟨hS, hA, hv⟩ := hI
    have hz : ∀ t, t < 8 → ∀ v, iv (wF m 95 13 v) 103 t = iv mem 117 (8 * i + t) := fun t ht v => by rw [iv_wF, hv, if_pos ht]
    refine PW.iload_n rfl rfl dX6_back_26 ?_
    refine PW.bipush (v := nI 8) (by decide) dX6_back_27 ?_
    refine PW.icmp_geN 55 (by decide) (by first | omega | (split <;> omega)) (by first | omega | (split <;> omega)) dX6_back_29 (fun hc29 => ?_) (fun hc29 => by (exfalso; omega))
    refine PW.aload_n rfl rfl dX6_back_55 ?_
    refine PW.iconst (v := nI 0) (by decide) dX6_back_56 ?_
    refine PW.tI hS (by decide) rfl pX6_162 dX6_back_57 (fun hS hw57 => ?_)
    refine PW.aload_n rfl rfl dX6_back_60 ?_
    refine PW.gR hS.1 (by decide) rfl fX6_32 dX6_back_61 ?_
    refine PW.bipush (v := nI 7) (by decide) dX6_back_64 ?_
    refine PW.aI hS.1 (by decide) rfl (by exact rfl) ⟨by omega, by decide⟩ ((hz 7 (by decide) _).trans f3) dX6_back_66 ?_
    refine PW.iret rfl (Nat.le_refl _) (Nat.le_refl _) dX6_back_67 ?_
    exact ⟨rfl, hS, (hA.mono (fun q h => h.2)).tr (Ag.wF (fun h => h.1 rfl)), fun j hj => by rw [fv_wF_ne (Or.inr hj), hA.fv (r := 95) (by decide)], ⟨fun t ht => (hz t (by omega) _).trans (f1 t ht), (hz 6 (by decide) _).trans f2, (hz 7 (by decide) _).trans f3⟩, hw57, fun i hi => absurd hi (Nat.not_lt_zero _)⟩
end KEEP
