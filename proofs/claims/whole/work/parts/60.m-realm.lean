/-! ===== realm: the model ===== -/
section MRLM
variable {b s : Nat} {sc : pw_E} {mem : pw_M} {n : Nat} {f : Nat → Nat}
set_option maxHeartbeats 8000000 in
theorem m_realm_no (hS : St b s sc mem) (hX : TM mem n f) (hn : n ≤ 200) (hf : ∀ i, i < n → f i < 256) (hr : (rlm f n).1 = false) : Ret 6 0 0 mX6_realm [.ref 95] mem (fun v m1 => v = some (.int (-10 - nI (rlm f n).2.1)) ∧ St b s sc m1 ∧ Mr mem m1) := by
  have hcall := m_readRealm hS hX hn hf
  refine Ret.of (by decide) (Nat.le_of_ble_eq_true rfl) fun l G => ?_
  show PW _ _ _ _ [(0, _)] _ _ _
  refine PW.aload_n rfl rfl dX6_realm_0 ?_
  refine PW.dV (ci := 6) (j := 0) _ hS.1 (by decide) rfl kX6_156 (hcall) rfl rfl (Nat.le_of_ble_eq_true rfl) rfl ⟨by decide, by decide⟩ ⟨Nat.zero_le _, Nat.zero_le _⟩ dX6_realm_1 (fun v m1 q => ?_)
  obtain ⟨rfl, hS, hK, hok, hno⟩ := q
  refine PW.if_neB 15 (by decide) dX6_realm_4 (fun hc4 => by (rw [hr] at hc4; cases hc4)) (fun hc4 => ?_)
  refine PW.bipush (v := -10) (by decide) dX6_realm_7 ?_
  refine PW.aload_n rfl rfl dX6_realm_9 ?_
  refine PW.gI hS.1 (by decide) rfl (hno hr) fX6_101 dX6_realm_10 ?_
  refine PW.isub dX6_realm_13 ?_
  refine PW.iret rfl (Nat.le_refl _) (Nat.le_refl _) dX6_realm_14 ?_
  exact ⟨rfl, hS, hK⟩
set_option maxHeartbeats 16000000 in
theorem m_realm_ok (hS : St b s sc mem) (hX : TM mem n f) (hn : n ≤ 200) (hf : ∀ i, i < n → f i < 256) (hr : (rlm f n).1 = true) : Ret 6 0 0 mX6_realm [.ref 95] mem (fun v m1 => v = some (.int (nI (rlm f n).2.1)) ∧ St b s sc m1 ∧ MD m1 (rlm f n).2.2 ∧ MN m1 ((rlm f n).2.2 1 0) ((rlm f n).2.2 16) 0 0 ∧ fi m1 95 13 = nI 0 ∧ (∀ i, i < 2 → iv m1 116 i = nI 0) ∧ TM m1 0 f ∧ fl m1 95 14 = fl mem 95 14 ∧ Ag (fun r => r < 95) mem m1) := by
  have hcall := m_readRealm hS hX hn hf
  refine Ret.of (by decide) (Nat.le_of_ble_eq_true rfl) fun l G => ?_
  show PW _ _ _ _ [(0, _)] _ _ _
  refine PW.aload_n rfl rfl dX6_realm_0 ?_
  refine PW.dV (ci := 6) (j := 0) _ hS.1 (by decide) rfl kX6_156 (hcall) rfl rfl (Nat.le_of_ble_eq_true rfl) rfl ⟨by decide, by decide⟩ ⟨Nat.zero_le _, Nat.zero_le _⟩ dX6_realm_1 (fun v m1 q => ?_)
  obtain ⟨rfl, hS, hK, hok, hno⟩ := q
  skip
  obtain ⟨h27, hM, hV⟩ := hok hr
  have hT6 := hV.1.2.1
  have h6 := hV.1.1
  generalize (rlm f n).2.2 = R at hM hV hT6 h6 ⊢
  generalize (rlm f n).2.1 = it at h27 ⊢
  refine PW.if_neB 15 (by decide) dX6_realm_4 (fun hc4 => ?_) (fun hc4 => by (rw [hr] at hc4; cases hc4))
  refine PW.aload_n rfl rfl dX6_realm_15 ?_
  refine PW.iconst (v := nI 0) (by decide) dX6_realm_16 ?_
  refine PW.tI hS (by decide) rfl pX6_91 dX6_realm_17 (fun hS hw17 => ?_)
  refine PW.aload_n rfl rfl dX6_realm_20 ?_
  refine PW.aload_n rfl rfl dX6_realm_21 ?_
  refine PW.gI hS.1 (by decide) rfl ((fi_wF_ne (Or.inr (by decide))).trans hM.1) fX6_117 dX6_realm_22 ?_
  refine PW.tI hS (by decide) rfl pX6_78 dX6_realm_25 (fun hS hw25 => ?_)
  refine PW.aload_n rfl rfl dX6_realm_28 ?_
  refine PW.aload_n rfl rfl dX6_realm_29 ?_
  refine PW.gI hS.1 (by decide) rfl ((fi_wF_ne (Or.inr (by decide))).trans ((fi_wF_ne (Or.inr (by decide))).trans hM.2.1)) fX6_124 dX6_realm_30 ?_
  refine PW.tI hS (by decide) rfl pX6_86 dX6_realm_33 (fun hS hw33 => ?_)
  refine PW.aload_n rfl rfl dX6_realm_36 ?_
  refine PW.aload_n rfl rfl dX6_realm_37 ?_
  refine PW.gI hS.1 (by decide) rfl ((fi_wF_ne (Or.inr (by decide))).trans ((fi_wF_ne (Or.inr (by decide))).trans ((fi_wF_ne (Or.inr (by decide))).trans hM.2.2.1))) fX6_131 dX6_realm_38 ?_
  refine PW.tI hS (by decide) rfl pX6_159 dX6_realm_41 (fun hS hw41 => ?_)
  refine PW.iconst (v := nI 0) (by decide) dX6_realm_44 ?_
  refine PW.istore_n rfl (by decide) dX6_realm_45 (?_ : PW _ _ _ _ [(0, _), (1, _)] _ _ _)
  skip
  have hA0 : Ag (fun r => r ≠ 95) m1 (wF (wF (wF (wF m1 95 1 (.int (nI 0))) 95 3 (.int (nI (R 0 0)))) 95 10 (.int (nI (R 1 0)))) 95 6 (.int (nI (R 2 0)))) := (((Ag.wF (fun h => h rfl)).tr (Ag.wF (fun h => h rfl))).tr (Ag.wF (fun h => h rfl))).tr (Ag.wF (fun h => h rfl))
  have f1 : fi (wF (wF (wF (wF m1 95 1 (.int (nI 0))) 95 3 (.int (nI (R 0 0)))) 95 10 (.int (nI (R 1 0)))) 95 6 (.int (nI (R 2 0)))) 95 1 = nI 0 := (fi_wF_ne (Or.inr (by decide))).trans ((fi_wF_ne (Or.inr (by decide))).trans ((fi_wF_ne (Or.inr (by decide))).trans hw17))
  have f3 : fi (wF (wF (wF (wF m1 95 1 (.int (nI 0))) 95 3 (.int (nI (R 0 0)))) 95 10 (.int (nI (R 1 0)))) 95 6 (.int (nI (R 2 0)))) 95 3 = nI (R 0 0) := (fi_wF_ne (Or.inr (by decide))).trans ((fi_wF_ne (Or.inr (by decide))).trans hw25)
  have f10 : fi (wF (wF (wF (wF m1 95 1 (.int (nI 0))) 95 3 (.int (nI (R 0 0)))) 95 10 (.int (nI (R 1 0)))) 95 6 (.int (nI (R 2 0)))) 95 10 = nI (R 1 0) := (fi_wF_ne (Or.inr (by decide))).trans hw33
  have fr : ∀ j, 13 < j → fv (wF (wF (wF (wF m1 95 1 (.int (nI 0))) 95 3 (.int (nI (R 0 0)))) 95 10 (.int (nI (R 1 0)))) 95 6 (.int (nI (R 2 0)))) 95 j = fv m1 95 j := fun j hj => (fv_wF_ne (Or.inr (by omega))).trans ((fv_wF_ne (Or.inr (by omega))).trans ((fv_wF_ne (Or.inr (by omega))).trans (fv_wF_ne (Or.inr (by omega)))))
  have f6 := hw41
  generalize wF (wF (wF (wF m1 95 1 (.int (nI 0))) 95 3 (.int (nI (R 0 0)))) 95 10 (.int (nI (R 1 0)))) 95 6 (.int (nI (R 2 0))) = m0 at hS hA0 f1 f3 f10 fr f6 ⊢
  have f27 : fi m0 95 27 = nI it := (fi_fv (fr 27 (by decide))).trans h27
  have f14 : fl m0 95 14 = fl mem 95 14 := (fl_fv (fr 14 (by decide))).trans (fl_fv (hK.2 14 (by decide)))
  have hB0 : Ag (fun r => r < 95) mem m0 := (hK.1.mono (fun r (h : r < 95) => ⟨by omega, by omega⟩)).tr (hA0.mono (fun r (h : r < 95) => by omega))
  have hM0 := hM.ag hA0 (fi_fv (fr 20 (by decide))) (fi_fv (fr 25 (by decide))) (fi_fv (fr 23 (by decide))) (fun q h1 h2 => by omega)
  refine PW.loop (I := fun j m => St b s sc m ∧ Ag (fun r => r ≠ 97) m0 m ∧ ∀ q, q < j → iv m 97 q = iv m0 105 q) (fun j _ => [(0, .ref 95), (1, .int (nI j))]) (fun _ m => m) 48 (fun j m hj hJ ih => ?_) (fun ma hJ => ?_) _ ⟨hS, Ag.rf, fun q hq => absurd hq (Nat.not_lt_zero _)⟩
  · obtain ⟨hS, hA, hv⟩ := hJ
    refine PW.iload_n rfl rfl dX6_realm_46 ?_
    refine PW.bipush (v := nI 48) (by decide) dX6_realm_47 ?_
    refine PW.icmp_geN 70 (by decide) (by first | omega | (split <;> omega)) (by first | omega | (split <;> omega)) dX6_realm_49 (fun hc49 => by (exfalso; omega)) (fun hc49 => ?_)
    refine PW.aload_n rfl rfl dX6_realm_52 ?_
    refine PW.gR hS.1 (by decide) rfl fX6_13 dX6_realm_53 ?_
    refine PW.iload_n rfl rfl dX6_realm_56 ?_
    refine PW.aload_n rfl rfl dX6_realm_57 ?_
    refine PW.gR hS.1 (by decide) rfl fX6_38 dX6_realm_58 ?_
    refine PW.iload_n rfl rfl dX6_realm_61 ?_
    refine PW.aI hS.1 (by decide) rfl (by exact rfl) ⟨by omega, by decide⟩ (hA.iv (r := 105) (by decide) j) dX6_realm_62 ?_
    refine PW.uI hS (by decide) rfl (by exact rfl) ⟨by omega, by decide⟩ dX6_realm_63 (fun hS hw63 => ?_)
    refine PW.iincN rfl (by decide) dX6_realm_64 (?_ : PW _ _ _ _ [(0, _), (1, _)] _ _ _)
    refine PW.goto 46 (by decide) dX6_realm_67 ?_
    refine ih _ ⟨hS, hA.tr (Ag.wI (fun h => h rfl)), fun q hq => ?_⟩
    rw [hw63]
    by_cases z : q = j
    · rw [if_pos z, z]
    · rw [if_neg z]; exact hv q (by omega)
  obtain ⟨hS, hAa, hva⟩ := hJ
  refine PW.iload_n rfl rfl dX6_realm_46 ?_
  refine PW.bipush (v := nI 48) (by decide) dX6_realm_47 ?_
  refine PW.icmp_geN 70 (by decide) (by first | omega | (split <;> omega)) (by first | omega | (split <;> omega)) dX6_realm_49 (fun hc49 => ?_) (fun hc49 => by (exfalso; omega))
  refine PW.iconst (v := nI 0) (by decide) dX6_realm_70 ?_
  refine PW.istore_n rfl (by decide) dX6_realm_71 (?_ : PW _ _ _ _ [(0, _), (1, _)] _ _ _)
  skip
  refine PW.loop (I := fun j m => St b s sc m ∧ Ag (fun r => r ≠ 97 ∧ r ≠ 98 ∧ r ≠ 99) m0 m ∧ (∀ q, iv m 97 q = iv ma 97 q) ∧ ∀ q, q < j → iv m 98 q = iv m0 106 q ∧ iv m 99 q = iv m0 107 q) (fun j _ => [(0, .ref 95), (1, .int (nI j))]) (fun _ m => m) 36 (fun j m hj hJ ih => ?_) (fun mb hJ => ?_) _ ⟨hS, hAa.mono (fun r h => h.1), fun q => rfl, fun q hq => absurd hq (Nat.not_lt_zero _)⟩
  · obtain ⟨hS, hA, h97, hv⟩ := hJ
    have hbj : iv m 106 j = bI ((R 9 (j / 6)).testBit (j % 6)) := by
      have h := (hM0.2.2.2.2.1 (j / 6) (j % 6) (by omega) (by omega)).1
      rw [show 6 * (j / 6) + j % 6 = j by omega] at h
      exact (hA.iv (r := 106) (by decide) j).trans h
    refine PW.iload_n rfl rfl dX6_realm_72 ?_
    refine PW.bipush (v := nI 36) (by decide) dX6_realm_73 ?_
    refine PW.icmp_geN 108 (by decide) (by first | omega | (split <;> omega)) (by first | omega | (split <;> omega)) dX6_realm_75 (fun hc75 => by (exfalso; omega)) (fun hc75 => ?_)
    refine PW.aload_n rfl rfl dX6_realm_78 ?_
    refine PW.gR hS.1 (by decide) rfl fX6_16 dX6_realm_79 ?_
    refine PW.iload_n rfl rfl dX6_realm_82 ?_
    refine PW.aload_n rfl rfl dX6_realm_83 ?_
    refine PW.gR hS.1 (by decide) rfl fX6_41 dX6_realm_84 ?_
    refine PW.iload_n rfl rfl dX6_realm_87 ?_
    refine PW.aZ hS.1 (by decide) rfl (by exact rfl) ⟨by omega, by decide⟩ (hbj) dX6_realm_88 ?_
    refine PW.uZ hS (by decide) rfl (by exact rfl) ⟨by omega, by decide⟩ (by first | exact bI_vp _ | rfl) dX6_realm_89 (fun hS hw89 => ?_)
    refine PW.aload_n rfl rfl dX6_realm_90 ?_
    refine PW.gR hS.1 (by decide) rfl fX6_20 dX6_realm_91 ?_
    refine PW.iload_n rfl rfl dX6_realm_94 ?_
    refine PW.aload_n rfl rfl dX6_realm_95 ?_
    refine PW.gR hS.1 (by decide) rfl fX6_44 dX6_realm_96 ?_
    refine PW.iload_n rfl rfl dX6_realm_99 ?_
    refine PW.aI hS.1 (by decide) rfl (by exact rfl) ⟨by omega, by decide⟩ ((iv_wI_ne (by decide)).trans (hA.iv (r := 107) (by decide) j)) dX6_realm_100 ?_
    refine PW.uI hS (by decide) rfl (by exact rfl) ⟨by omega, by decide⟩ dX6_realm_101 (fun hS hw101 => ?_)
    refine PW.iincN rfl (by decide) dX6_realm_102 (?_ : PW _ _ _ _ [(0, _), (1, _)] _ _ _)
    refine PW.goto 72 (by decide) dX6_realm_105 ?_
    refine ih _ ⟨hS, (hA.tr (Ag.wI (fun h => h.2.1 rfl))).tr (Ag.wI (fun h => h.2.2 rfl)), fun q => by rw [iv_wI_ne (by decide), iv_wI_ne (by decide)]; exact h97 q, fun q hq => ⟨?_, ?_⟩⟩
    · rw [iv_wI_ne (by decide), hw89]
      by_cases z : q = j
      · rw [if_pos z, z, ← hbj]; exact hA.iv (r := 106) (by decide) j
      · rw [if_neg z]; exact (hv q (by omega)).1
    · rw [hw101]
      by_cases z : q = j
      · rw [if_pos z, z]
      · rw [if_neg z, iv_wI_ne (by decide)]; exact (hv q (by omega)).2
  obtain ⟨hS, hAb, h97, hvb⟩ := hJ
  refine PW.iload_n rfl rfl dX6_realm_72 ?_
  refine PW.bipush (v := nI 36) (by decide) dX6_realm_73 ?_
  refine PW.icmp_geN 108 (by decide) (by first | omega | (split <;> omega)) (by first | omega | (split <;> omega)) dX6_realm_75 (fun hc75 => ?_) (fun hc75 => by (exfalso; omega))
  refine PW.iconst (v := nI 0) (by decide) dX6_realm_108 ?_
  refine PW.istore_n rfl (by decide) dX6_realm_109 (?_ : PW _ _ _ _ [(0, _), (1, _)] _ _ _)
  skip
  refine PW.loop (I := fun j m => St b s sc m ∧ Ag (fun r => r < 100 ∨ 103 < r) mb m ∧ ∀ q, q < j → iv m 100 q = iv m0 108 (4 * q) ∧ iv m 101 q = iv m0 108 (4 * q + 1) ∧ iv m 102 q = iv m0 108 (4 * q + 2) ∧ iv m 103 q = iv m0 108 (4 * q + 3)) (fun j _ => [(0, .ref 95), (1, .int (nI j))]) (fun _ m => m) 6 (fun j m hj hJ ih => ?_) (fun mc hJ => ?_) _ ⟨hS, Ag.rf, fun q hq => absurd hq (Nat.not_lt_zero _)⟩
  · obtain ⟨hS, hA, hv⟩ := hJ
    have h8 : ∀ q, iv m 108 q = iv m0 108 q := fun q => (hA.iv (by decide) q).trans (hAb.iv (by decide) q)
    refine PW.iload_n rfl rfl dX6_realm_110 ?_
    refine PW.bipush (v := nI 6) (by decide) dX6_realm_111 ?_
    refine PW.icmp_geN 184 (by decide) (by first | omega | (split <;> omega)) (by first | omega | (split <;> omega)) dX6_realm_113 (fun hc113 => by (exfalso; omega)) (fun hc113 => ?_)
    refine PW.aload_n rfl rfl dX6_realm_116 ?_
    refine PW.gR hS.1 (by decide) rfl fX6_23 dX6_realm_117 ?_
    refine PW.iload_n rfl rfl dX6_realm_120 ?_
    refine PW.aload_n rfl rfl dX6_realm_121 ?_
    refine PW.gR hS.1 (by decide) rfl fX6_47 dX6_realm_122 ?_
    refine PW.iconst (v := nI 4) (by decide) dX6_realm_125 ?_
    refine PW.iload_n rfl rfl dX6_realm_126 ?_
    refine PW.imulN dX6_realm_127 ?_
    refine PW.aI hS.1 (by decide) rfl (by exact rfl) ⟨by omega, by decide⟩ (h8 (4 * j)) dX6_realm_128 ?_
    refine PW.uI hS (by decide) rfl (by exact rfl) ⟨by omega, by decide⟩ dX6_realm_129 (fun hS hw129 => ?_)
    refine PW.aload_n rfl rfl dX6_realm_130 ?_
    refine PW.gR hS.1 (by decide) rfl fX6_26 dX6_realm_131 ?_
    refine PW.iload_n rfl rfl dX6_realm_134 ?_
    refine PW.aload_n rfl rfl dX6_realm_135 ?_
    refine PW.gR hS.1 (by decide) rfl fX6_47 dX6_realm_136 ?_
    refine PW.iconst (v := nI 4) (by decide) dX6_realm_139 ?_
    refine PW.iload_n rfl rfl dX6_realm_140 ?_
    refine PW.imulN dX6_realm_141 ?_
    refine PW.iconst (v := nI 1) (by decide) dX6_realm_142 ?_
    refine PW.iaddN dX6_realm_143 ?_
    refine PW.aI hS.1 (by decide) rfl (by exact rfl) ⟨by omega, by decide⟩ ((iv_wI_ne (by decide)).trans (h8 (4 * j + 1))) dX6_realm_144 ?_
    refine PW.uI hS (by decide) rfl (by exact rfl) ⟨by omega, by decide⟩ dX6_realm_145 (fun hS hw145 => ?_)
    refine PW.aload_n rfl rfl dX6_realm_146 ?_
    refine PW.gR hS.1 (by decide) rfl fX6_29 dX6_realm_147 ?_
    refine PW.iload_n rfl rfl dX6_realm_150 ?_
    refine PW.aload_n rfl rfl dX6_realm_151 ?_
    refine PW.gR hS.1 (by decide) rfl fX6_47 dX6_realm_152 ?_
    refine PW.iconst (v := nI 4) (by decide) dX6_realm_155 ?_
    refine PW.iload_n rfl rfl dX6_realm_156 ?_
    refine PW.imulN dX6_realm_157 ?_
    refine PW.iconst (v := nI 2) (by decide) dX6_realm_158 ?_
    refine PW.iaddN dX6_realm_159 ?_
    refine PW.aI hS.1 (by decide) rfl (by exact rfl) ⟨by omega, by decide⟩ ((iv_wI_ne (by decide)).trans ((iv_wI_ne (by decide)).trans (h8 (4 * j + 2)))) dX6_realm_160 ?_
    refine PW.uI hS (by decide) rfl (by exact rfl) ⟨by omega, by decide⟩ dX6_realm_161 (fun hS hw161 => ?_)
    refine PW.aload_n rfl rfl dX6_realm_162 ?_
    refine PW.gR hS.1 (by decide) rfl fX6_32 dX6_realm_163 ?_
    refine PW.iload_n rfl rfl dX6_realm_166 ?_
    refine PW.aload_n rfl rfl dX6_realm_167 ?_
    refine PW.gR hS.1 (by decide) rfl fX6_47 dX6_realm_168 ?_
    refine PW.iconst (v := nI 4) (by decide) dX6_realm_171 ?_
    refine PW.iload_n rfl rfl dX6_realm_172 ?_
    refine PW.imulN dX6_realm_173 ?_
    refine PW.iconst (v := nI 3) (by decide) dX6_realm_174 ?_
    refine PW.iaddN dX6_realm_175 ?_
    refine PW.aI hS.1 (by decide) rfl (by exact rfl) ⟨by omega, by decide⟩ ((iv_wI_ne (by decide)).trans ((iv_wI_ne (by decide)).trans ((iv_wI_ne (by decide)).trans (h8 (4 * j + 3))))) dX6_realm_176 ?_
    refine PW.uI hS (by decide) rfl (by exact rfl) ⟨by omega, by decide⟩ dX6_realm_177 (fun hS hw177 => ?_)
    refine PW.iincN rfl (by decide) dX6_realm_178 (?_ : PW _ _ _ _ [(0, _), (1, _)] _ _ _)
    refine PW.goto 110 (by decide) dX6_realm_181 ?_
    refine ih _ ⟨hS, (((hA.tr (Ag.wI (by omega))).tr (Ag.wI (by omega))).tr (Ag.wI (by omega))).tr (Ag.wI (by omega)), fun q hq => ?_⟩
    rw [iv_wI_ne (by decide), iv_wI_ne (by decide), iv_wI_ne (by decide), hw129, iv_wI_ne (by decide), iv_wI_ne (by decide), hw145, iv_wI_ne (by decide), iv_wI_ne (by decide), hw161, iv_wI_ne (by decide), iv_wI_ne (by decide), hw177, iv_wI_ne (by decide), iv_wI_ne (by decide), iv_wI_ne (by decide)]
    by_cases z : q = j
    · rw [if_pos z, if_pos z, if_pos z, if_pos z, z]; exact ⟨rfl, rfl, rfl, rfl⟩
    · rw [if_neg z, if_neg z, if_neg z, if_neg z]; exact hv q (by omega)
  obtain ⟨hS, hAc, hvc⟩ := hJ
  have c95 : ∀ j, fv mc 95 j = fv m0 95 j := fun j => (hAc.fv (r := 95) (by decide) j).trans (hAb.fv (r := 95) (by decide) j)
  refine PW.iload_n rfl rfl dX6_realm_110 ?_
  refine PW.bipush (v := nI 6) (by decide) dX6_realm_111 ?_
  refine PW.icmp_geN 184 (by decide) (by first | omega | (split <;> omega)) (by first | omega | (split <;> omega)) dX6_realm_113 (fun hc113 => ?_) (fun hc113 => by (exfalso; omega))
  refine PW.aload_n rfl rfl dX6_realm_184 ?_
  refine PW.gR hS.1 (by decide) rfl fX6_32 dX6_realm_185 ?_
  refine PW.bipush (v := nI 6) (by decide) dX6_realm_188 ?_
  refine PW.iconst (v := nI 0) (by decide) dX6_realm_190 ?_
  refine PW.uI hS (by decide) rfl (by exact rfl) ⟨by omega, by decide⟩ dX6_realm_191 (fun hS hw191 => ?_)
  refine PW.aload_n rfl rfl dX6_realm_192 ?_
  refine PW.gR hS.1 (by decide) rfl fX6_32 dX6_realm_193 ?_
  refine PW.bipush (v := nI 7) (by decide) dX6_realm_196 ?_
  refine PW.iconst (v := nI 0) (by decide) dX6_realm_198 ?_
  refine PW.uI hS (by decide) rfl (by exact rfl) ⟨by omega, by decide⟩ dX6_realm_199 (fun hS hw199 => ?_)
  refine PW.aload_n rfl rfl dX6_realm_200 ?_
  refine PW.iconst (v := nI 0) (by decide) dX6_realm_201 ?_
  refine PW.tI hS (by decide) rfl pX6_162 dX6_realm_202 (fun hS hw202 => ?_)
  refine PW.aload_n rfl rfl dX6_realm_205 ?_
  refine PW.gR hS.1 (by decide) rfl fX6_72 dX6_realm_206 ?_
  refine PW.iconst (v := nI 0) (by decide) dX6_realm_209 ?_
  refine PW.iconst (v := nI 0) (by decide) dX6_realm_210 ?_
  refine PW.uZ hS (by decide) rfl (by exact rfl) ⟨by omega, by decide⟩ (by first | exact bI_vp _ | rfl) dX6_realm_211 (fun hS hw211 => ?_)
  refine PW.aload_n rfl rfl dX6_realm_212 ?_
  refine PW.gR hS.1 (by decide) rfl fX6_72 dX6_realm_213 ?_
  refine PW.iconst (v := nI 1) (by decide) dX6_realm_216 ?_
  refine PW.iconst (v := nI 0) (by decide) dX6_realm_217 ?_
  refine PW.uZ hS (by decide) rfl (by exact rfl) ⟨by omega, by decide⟩ (by first | exact bI_vp _ | rfl) dX6_realm_218 (fun hS hw218 => ?_)
  refine PW.aload_n rfl rfl dX6_realm_219 ?_
  refine PW.gI hS.1 (by decide) rfl (fi_wI.trans (fi_wI.trans ((fi_wF_ne (Or.inr (by decide))).trans (fi_wI.trans (fi_wI.trans ((fi_fv (c95 27)).trans f27)))))) fX6_134 dX6_realm_220 ?_
  refine PW.iret rfl (Nat.le_refl _) (Nat.le_refl _) dX6_realm_223 ?_
  refine ⟨rfl, hS, ?_, ?_, ?_, ?_, ?_, ?_, ?_⟩
  · have e97 : ∀ q, q < 48 → iv (wI (wI (wF (wI (wI mc 103 6 (nI 0)) 103 7 (nI 0)) 95 13 (.int (nI 0))) 116 0 (nI 0)) 116 1 (nI 0)) 97 q = iv m0 105 q := fun q hq => by rw [iv_wI_ne (by decide), iv_wI_ne (by decide), iv_wF, iv_wI_ne (by decide), iv_wI_ne (by decide), hAc.iv (by decide), h97, hva q hq]
    refine ⟨fi_wI.trans (fi_wI.trans ((fi_wF_ne (Or.inr (by decide))).trans (fi_wI.trans (fi_wI.trans ((fi_fv (c95 3)).trans f3))))), fi_wI.trans (fi_wI.trans ((fi_wF_ne (Or.inr (by decide))).trans (fi_wI.trans (fi_wI.trans ((fi_fv (c95 10)).trans f10))))), fi_wI.trans (fi_wI.trans ((fi_wF_ne (Or.inr (by decide))).trans (fi_wI.trans (fi_wI.trans ((fi_fv (c95 6)).trans f6))))), fun k hk => ?_, fun a c ha hc => ?_, fun u hu => ?_⟩
    · rw [e97 _ (by omega), e97 _ (by omega), e97 _ (by omega), e97 _ (by omega), e97 _ (by omega), e97 _ (by omega), e97 _ (by omega), e97 _ (by omega)]
      exact hM0.2.2.2.1 k hk
    · rw [iv_wI_ne (by decide), iv_wI_ne (by decide), iv_wF, iv_wI_ne (by decide), iv_wI_ne (by decide), hAc.iv (by decide), (hvb _ (by omega)).1, iv_wI_ne (by decide), iv_wI_ne (by decide), iv_wF, iv_wI_ne (by decide), iv_wI_ne (by decide), hAc.iv (by decide), (hvb _ (by omega)).2]
      exact hM0.2.2.2.2.1 a c ha hc
    · obtain ⟨g1, g2, g3, g4⟩ := hvc u (by omega)
      obtain ⟨k1, k2, k3, k4⟩ := hM0.2.2.2.2.2 u hu
      refine ⟨?_, ?_, ?_⟩
      · rw [iv_wI_ne (by decide), iv_wI_ne (by decide), iv_wF, iv_wI_ne (by decide), iv_wI_ne (by decide), g1]; exact k1
      · rw [iv_wI_ne (by decide), iv_wI_ne (by decide), iv_wF, iv_wI_ne (by decide), iv_wI_ne (by decide), g2]; exact k2
      · rw [iv_wI_ne (by decide), iv_wI_ne (by decide), iv_wF, iv_wI_ne (by decide), iv_wI_ne (by decide), g3]; exact k3
  · refine ⟨fun u hu => ?_, ?_, ?_⟩
    · rw [iv_wI_ne (by decide), iv_wI_ne (by decide), iv_wF, hw199, if_neg (by omega), hw191, if_neg (by omega), (hvc u (by omega)).2.2.2]
      exact (hM0.2.2.2.2.2 u hu).2.2.2
    · rw [iv_wI_ne (by decide), iv_wI_ne (by decide), iv_wF, hw199, if_neg (by decide), hw191, if_pos rfl]; rfl
    · rw [iv_wI_ne (by decide), iv_wI_ne (by decide), iv_wF, hw199, if_pos rfl]
  · exact fi_wI.trans (fi_wI.trans hw202)
  · intro i hi
    rw [hw218]
    by_cases z : i = 1
    · rw [if_pos z]
    · rw [if_neg z, hw211, if_pos (by omega)]
  · exact ⟨fi_wI.trans (fi_wI.trans ((fi_wF_ne (Or.inr (by decide))).trans (fi_wI.trans (fi_wI.trans ((fi_fv (c95 1)).trans f1))))), fun i hi => absurd hi (Nat.not_lt_zero _)⟩
  · exact fl_wI.trans (fl_wI.trans ((fl_wF_ne (Or.inr (by decide))).trans (fl_wI.trans (fl_wI.trans ((fl_fv (c95 14)).trans f14)))))
  · exact (((((((hB0.tr (hAb.mono (fun r (h : r < 95) => ⟨by omega, by omega, by omega⟩))).tr (hAc.mono (fun r (h : r < 95) => by omega))).tr (Ag.wI (by omega))).tr (Ag.wI (by omega))).tr (Ag.wF (by omega))).tr (Ag.wI (by omega))).tr (Ag.wI (by omega)))
end MRLM
