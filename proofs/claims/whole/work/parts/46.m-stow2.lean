/-! ===== stow: the model's walk ===== -/
section MSTX
variable {b s : Nat} {sc : pw_E} {mem : pw_M} {R : DR} {w : Nat → Nat} {p : Int32} {d : Nat}
def rdN (P r : Nat) : Nat → Nat
  | 0 => r
  | j + 1 => rdN P r j / P
theorem rdN_eq {P r : Nat} : ∀ j, rdN P r j = r / P ^ j
  | 0 => by rw [rdN, Nat.pow_zero, Nat.div_one]
  | j + 1 => by rw [rdN, rdN_eq j, Nat.div_div_eq_div_mul, Nat.pow_succ]
set_option maxHeartbeats 16000000 in
theorem m_stow (hS : St b s sc mem) (hM : MD mem R) (hD : Dat R) (hN : MN mem (R 1 0) w p d) (hw : ∀ t, t < R 1 0 → w t < R 0 0) (t : Int32) : Ret 5 0 0 mX6_stow [.ref 95, .int t] mem (fun v m1 => v = some (.int (stwS R w t)) ∧ St b s sc m1 ∧ Ag (fun r => r ≠ 111 ∧ r ≠ 112 ∧ r ≠ 113) mem m1) := by
  have h6 := hD.1
  have hT := hD.2.1
  have hin := stw_in (t := t) (n := R 1 0) (by omega)
  have hpw : ∀ j, j ≤ 6 → R 0 0 ^ j ≤ 46656 := fun j hj => Nat.le_trans (Nat.pow_le_pow_left h6 j) (Nat.le_trans (Nat.pow_le_pow_right (by decide) hj) (by decide))
  have hpT := hpw _ hT
  by_cases hg : t = -1 ∨ inR t (R 1 0) = true
  · rw [stwS, if_pos hg]
    refine Ret.of (by decide) (Nat.le_of_ble_eq_true rfl) fun l G => ?_
    show PW _ _ _ _ [(0, _), (1, _)] _ _ _
    refine PW.iload_n rfl rfl dX6_stow_0 ?_
    refine PW.i2l dX6_stow_1 ?_
    refine PW.ldc2 cX6_227 dX6_stow_2 ?_
    refine PW.aload_n rfl rfl dX6_stow_5 ?_
    refine PW.gI hS.1 (by decide) rfl (hM.2.1) fX6_86 dX6_stow_6 ?_
    refine PW.iconst (v := nI 1) (by decide) dX6_stow_9 ?_
    refine PW.isub dX6_stow_10 ?_
    refine PW.i2l dX6_stow_11 ?_
    refine PW.cS _ kX6_82 (m_in _ _ _ mem) rfl rfl (Nat.le_of_ble_eq_true rfl) ⟨by decide, by decide⟩ ⟨Nat.zero_le _, Nat.zero_le _⟩ dX6_stow_12 ?_
    refine PW.if_neB 20 (by decide) dX6_stow_15 (fun hc15 => ?_) (fun hc15 => by (rw [hin.mpr hg] at hc15; cases hc15))
    refine PW.iconst (v := nI 1) (by decide) dX6_stow_20 ?_
    refine PW.istore_n rfl (by decide) dX6_stow_21 (?_ : PW _ _ _ _ [(0, _), (1, _), (2, _)] _ _ _)
    refine PW.iconst (v := nI 0) (by decide) dX6_stow_22 ?_
    refine PW.istore_n rfl (by decide) dX6_stow_23 (?_ : PW _ _ _ _ [(0, _), (1, _), (2, _), (3, _)] _ _ _)
    skip
    refine PW.loop (I := fun k m => St b s sc m ∧ Ag (fun r => r ≠ 111 ∧ r ≠ 112 ∧ r ≠ 113) mem m ∧ ∀ j, j < k → iv m 113 j = nI (pockN R (R 13 j) (R 0 0))) (fun k _ => [(0, .ref 95), (1, .int t), (2, .int (nI (R 0 0 ^ k))), (3, .int (nI k))]) (fun _ m => m) (R 1 0) (fun k m hk hI ih => ?_) (fun m hI => ?_) _ ⟨hS, Ag.rf, fun j hj => absurd hj (Nat.not_lt_zero _)⟩
    · obtain ⟨hS, hA, h113⟩ := hI
      have hM2 := hM.ag hA (by decide) (fun r h1 h2 => by omega)
      refine PW.iload_n rfl rfl dX6_stow_24 ?_
      refine PW.aload_n rfl rfl dX6_stow_25 ?_
      refine PW.gI hS.1 (by decide) rfl (hM2.2.1) fX6_86 dX6_stow_26 ?_
      refine PW.icmp_geN 61 (by decide) (by first | omega | (split <;> omega)) (by first | omega | (split <;> omega)) dX6_stow_29 (fun hc29 => by (exfalso; omega)) (fun hc29 => ?_)
      refine PW.iload_n rfl rfl dX6_stow_32 ?_
      refine PW.aload_n rfl rfl dX6_stow_33 ?_
      refine PW.gI hS.1 (by decide) rfl (hM2.1) fX6_78 dX6_stow_34 ?_
      refine PW.imulN dX6_stow_37 ?_
      refine PW.istore_n rfl (by decide) dX6_stow_38 (?_ : PW _ _ _ _ [(0, _), (1, _), (2, _), (3, _)] _ _ _)
      refine PW.aload_n rfl rfl dX6_stow_39 ?_
      refine PW.gR hS.1 (by decide) rfl fX6_62 dX6_stow_40 ?_
      refine PW.iload_n rfl rfl dX6_stow_43 ?_
      refine PW.aload_n rfl rfl dX6_stow_44 ?_
      refine PW.aload_n rfl rfl dX6_stow_45 ?_
      refine PW.gR hS.1 (by decide) rfl fX6_23 dX6_stow_46 ?_
      refine PW.iload_n rfl rfl dX6_stow_49 ?_
      refine PW.aI hS.1 (by decide) rfl (by exact rfl) ⟨by omega, by decide⟩ ((hM2.2.2.2.2.2 k hk).1) dX6_stow_50 ?_
      refine PW.cV (ci := 6) (j := 0) _ hS.1 (by decide) rfl kX6_190 (m_letting hS hM2 hD (hD.2.2.2.2.2.2 k hk).1) rfl rfl (Nat.le_of_ble_eq_true rfl) rfl ⟨by decide, by decide⟩ ⟨Nat.zero_le _, Nat.zero_le _⟩ dX6_stow_51 ?_
      refine PW.uI hS (by decide) rfl (by exact rfl) ⟨by omega, by decide⟩ dX6_stow_54 (fun hS hw54 => ?_)
      refine PW.iincN rfl (by decide) dX6_stow_55 (?_ : PW _ _ _ _ [(0, _), (1, _), (2, _), (3, _)] _ _ _)
      refine PW.goto 24 (by decide) dX6_stow_58 ?_
      rw [Nat.pow_succ] at ih
      refine ih _ ⟨hS, hA.tr (Ag.wI (fun h => h.2.2 rfl)), fun j hj => ?_⟩
      rw [hw54]
      by_cases e : j = k
      · rw [if_pos e, e]
      · rw [if_neg e]; exact h113 j (by omega)
    obtain ⟨hS, hA, h113⟩ := hI
    have hM2 := hM.ag hA (by decide) (fun r h1 h2 => by omega)
    refine PW.iload_n rfl rfl dX6_stow_24 ?_
    refine PW.aload_n rfl rfl dX6_stow_25 ?_
    refine PW.gI hS.1 (by decide) rfl (hM2.2.1) fX6_86 dX6_stow_26 ?_
    refine PW.icmp_geN 61 (by decide) (by first | omega | (split <;> omega)) (by first | omega | (split <;> omega)) dX6_stow_29 (fun hc29 => ?_) (fun hc29 => by (exfalso; omega))
    refine PW.ldc cX6_222 dX6_stow_61 ?_
    refine PW.istore_n rfl (by decide) dX6_stow_63 (?_ : PW _ _ _ _ [(0, _), (1, _), (2, _), (3, _)] _ _ _)
    refine PW.iconst (v := nI 0) (by decide) dX6_stow_64 ?_
    refine PW.istore (by decide) dX6_stow_65 (?_ : PW _ _ _ _ [(0, _), (1, _), (2, _), (3, _), (4, _)] _ _ _)
    skip
    rw [show (100000 : Int32) = nI 100000 from rfl]
    refine PW.loop (I := fun r m => St b s sc m ∧ Ag (fun r => r ≠ 111 ∧ r ≠ 112 ∧ r ≠ 113) mem m ∧ (∀ j, j < R 1 0 → iv m 113 j = nI (pockN R (R 13 j) (R 0 0))) ∧ ((stB R w r).1 ≠ 100000 → ∀ j, j < R 1 0 → iv m 112 j = nI (pD (R 0 0) (R 1 0) (stB R w r).2 j))) (fun r _ => [(0, .ref 95), (1, .int t), (2, .int (nI (R 0 0 ^ R 1 0))), (3, .int (nI (stB R w r).1)), (4, .int (nI r))]) (fun _ m => m) (R 0 0 ^ R 1 0) (fun r m hr hI ih => ?_) (fun m hI => ?_) _ ⟨hS, hA, h113, fun h => absurd rfl h⟩
    · obtain ⟨hS, hA, h113, h112⟩ := hI
      have hM2 := hM.ag hA (by decide) (fun r h1 h2 => by omega)
      have hst : (stB R w r).1 ≤ 100000 := by
        rcases stB_spec (R := R) (w := w) hT r with q | q
        · rw [q.1]; exact Nat.le_refl _
        · exact Nat.le_of_lt q.1
      have hcn := cntN_n (w := w) (ρ := pD (R 0 0) (R 1 0) r) (R 1 0)
      have es : stB R w (r + 1) = if okR R (pD (R 0 0) (R 1 0) r) = true ∧ cntN w (pD (R 0 0) (R 1 0) r) (R 1 0) < (stB R w r).1 then (cntN w (pD (R 0 0) (R 1 0) r) (R 1 0), r) else stB R w r := rfl
      refine PW.iload rfl dX6_stow_67 ?_
      refine PW.iload_n rfl rfl dX6_stow_69 ?_
      refine PW.icmp_geN 177 (by decide) (by first | omega | (split <;> omega)) (by first | omega | (split <;> omega)) dX6_stow_70 (fun hc70 => by (exfalso; omega)) (fun hc70 => ?_)
      refine PW.iload rfl dX6_stow_73 ?_
      refine PW.istore (by decide) dX6_stow_75 (?_ : PW _ _ _ _ [(0, _), (1, _), (2, _), (3, _), (4, _), (5, _)] _ _ _)
      refine PW.aload_n rfl rfl dX6_stow_77 ?_
      refine PW.gI hS.1 (by decide) rfl (hM2.2.1) fX6_86 dX6_stow_78 ?_
      refine PW.iconst (v := nI 1) (by decide) dX6_stow_81 ?_
      refine PW.isub dX6_stow_82 ?_
      refine PW.istore (by decide) dX6_stow_83 (?_ : PW _ _ _ _ [(0, _), (1, _), (2, _), (3, _), (4, _), (5, _), (6, _)] _ _ _)
      skip
      rw [dnI_0 hT]
      refine PW.loop (I := fun j m => St b s sc m ∧ Ag (fun r => r ≠ 111 ∧ r ≠ 112 ∧ r ≠ 113) mem m ∧ (∀ j, j < R 1 0 → iv m 113 j = nI (pockN R (R 13 j) (R 0 0))) ∧ ((stB R w r).1 ≠ 100000 → ∀ j, j < R 1 0 → iv m 112 j = nI (pD (R 0 0) (R 1 0) (stB R w r).2 j)) ∧ ∀ i, i < R 1 0 → R 1 0 ≤ i + j → iv m 111 i = nI (pD (R 0 0) (R 1 0) r i)) (fun j _ => [(0, .ref 95), (1, .int t), (2, .int (nI (R 0 0 ^ R 1 0))), (3, .int (nI (stB R w r).1)), (4, .int (nI r)), (5, .int (nI (rdN (R 0 0) r j))), (6, .int (dnI (R 1 0) j))]) (fun _ m => m) (R 1 0) (fun j m hj hI ih2 => ?_) (fun m hI => ?_) _ ⟨hS, hA, h113, h112, fun i hi h => by omega⟩
      · obtain ⟨hS, hA, h113, h112, h111⟩ := hI
        have hM2 := hM.ag hA (by decide) (fun r h1 h2 => by omega)
        have hP := hw j hj
        have ed : dnI (R 1 0) j = nI (R 1 0 - 1 - j) := if_pos hj
        have e2 := dnI_1 (R 1 0) hT j hj
        have hle : rdN (R 0 0) r j ≤ r := by rw [rdN_eq]; exact Nat.div_le_self _ _
        have ep : rdN (R 0 0) r j % R 0 0 = pD (R 0 0) (R 1 0) r (R 1 0 - 1 - j) := by
          rw [rdN_eq]
          unfold pD
          rw [show R 1 0 - 1 - (R 1 0 - 1 - j) = j by omega]
        rw [ed] at e2 ⊢
        refine PW.iload rfl dX6_stow_85 ?_
        refine PW.if_lt 119 (by decide) dX6_stow_87 (fun hc87 => by (first | (exfalso; omega) | exact absurd hc87 (nI_pos (by omega)))) (fun hc87 => ?_)
        refine PW.aload_n rfl rfl dX6_stow_90 ?_
        refine PW.gR hS.1 (by decide) rfl fX6_56 dX6_stow_91 ?_
        refine PW.iload rfl dX6_stow_94 ?_
        refine PW.iload rfl dX6_stow_96 ?_
        refine PW.aload_n rfl rfl dX6_stow_98 ?_
        refine PW.gI hS.1 (by decide) rfl (hM2.1) fX6_78 dX6_stow_99 ?_
        refine PW.iremN (by omega) dX6_stow_102 ?_
        rw [ep]
        refine PW.uI hS (by decide) rfl (by exact rfl) ⟨by omega, by decide⟩ dX6_stow_103 (fun hS hw103 => ?_)
        refine PW.iload rfl dX6_stow_104 ?_
        refine PW.aload_n rfl rfl dX6_stow_106 ?_
        refine PW.gI hS.1 (by decide) rfl ((hM2.ag (Ag.wI (r := 111) (A := fun r => r ≠ 111) (fun h => h rfl)) (by decide) (fun r h1 h2 => by omega)).1) fX6_78 dX6_stow_107 ?_
        refine PW.idivN (by omega) dX6_stow_110 ?_
        refine PW.istore (by decide) dX6_stow_111 (?_ : PW _ _ _ _ [(0, _), (1, _), (2, _), (3, _), (4, _), (5, _), (6, _)] _ _ _)
        refine PW.iinc rfl rfl (by decide) dX6_stow_113 (?_ : PW _ _ _ _ [(0, _), (1, _), (2, _), (3, _), (4, _), (5, _), (6, _)] _ _ _)
        refine PW.goto 85 (by decide) dX6_stow_116 ?_
        rw [e2]
        refine ih2 _ ⟨hS, hA.tr (Ag.wI (fun h => h.1 rfl)), fun q hq => by rw [iv_wI_ne (by decide)]; exact h113 q hq, fun h q hq => by rw [iv_wI_ne (by decide)]; exact h112 h q hq, fun i hi hi2 => ?_⟩
        rw [hw103]
        by_cases e : i = R 1 0 - 1 - j
        · rw [if_pos e, e]
        · rw [if_neg e]; exact h111 i hi (by omega)
      obtain ⟨hS, hA, h113, h112, h111⟩ := hI
      have hM2 := hM.ag hA (by decide) (fun r h1 h2 => by omega)
      have hN2 := hN.ag hA (by decide)
      have ed : dnI (R 1 0) (R 1 0) = -1 := if_neg (Nat.lt_irrefl _)
      have hel := m_elsewhere hS hM2 hD hN2 hw (ρ := pD (R 0 0) (R 1 0) r) (fun j hj => Nat.mod_lt _ (Nat.lt_of_le_of_lt (Nat.zero_le _) (hw j hj))) (fun j hj => h111 j hj (by omega)) h113
      rw [ed]
      refine PW.iload rfl dX6_stow_85 ?_
      refine PW.if_lt 119 (by decide) dX6_stow_87 (fun hc87 => ?_) (fun hc87 => by (first | (exfalso; omega) | exact absurd (by decide) hc87))
      refine PW.aload_n rfl rfl dX6_stow_119 ?_
      refine PW.cV (ci := 6) (j := 0) _ hS.1 (by decide) rfl kX6_229 (hel) rfl rfl (Nat.le_of_ble_eq_true rfl) rfl ⟨by decide, by decide⟩ ⟨Nat.zero_le _, Nat.zero_le _⟩ dX6_stow_120 ?_
      skip
      by_cases hok : okR R (pD (R 0 0) (R 1 0) r) = true
      · have eel : elS R w (pD (R 0 0) (R 1 0) r) = nI (cntN w (pD (R 0 0) (R 1 0) r) (R 1 0)) := if_pos hok
        rw [eel]
        by_cases hlt : cntN w (pD (R 0 0) (R 1 0) r) (R 1 0) < (stB R w r).1
        · rw [if_pos ⟨hok, hlt⟩] at es
          rw [es] at ih
          refine PW.istore (by decide) dX6_stow_123 (?_ : PW _ _ _ _ [(0, _), (1, _), (2, _), (3, _), (4, _), (5, _), (6, _)] _ _ _)
          refine PW.iload rfl dX6_stow_125 ?_
          refine PW.if_lt 171 (by decide) dX6_stow_127 (fun hc127 => by (first | (exfalso; omega) | exact absurd hc127 (nI_pos (by omega)))) (fun hc127 => ?_)
          refine PW.iload rfl dX6_stow_130 ?_
          refine PW.iload_n rfl rfl dX6_stow_132 ?_
          refine PW.icmp_geN 171 (by decide) (by first | omega | (split <;> omega)) (by first | omega | (split <;> omega)) dX6_stow_133 (fun hc133 => by (first | (exfalso; omega) | exact absurd hc133 (nI_pos (by omega)))) (fun hc133 => ?_)
          refine PW.iload rfl dX6_stow_136 ?_
          refine PW.istore_n rfl (by decide) dX6_stow_138 (?_ : PW _ _ _ _ [(0, _), (1, _), (2, _), (3, _), (4, _), (5, _), (6, _)] _ _ _)
          refine PW.iconst (v := nI 0) (by decide) dX6_stow_139 ?_
          refine PW.istore (by decide) dX6_stow_140 (?_ : PW _ _ _ _ [(0, _), (1, _), (2, _), (3, _), (4, _), (5, _), (6, _), (7, _)] _ _ _)
          skip
          refine PW.loop (I := fun q m => St b s sc m ∧ Ag (fun r => r ≠ 111 ∧ r ≠ 112 ∧ r ≠ 113) mem m ∧ (∀ j, j < R 1 0 → iv m 113 j = nI (pockN R (R 13 j) (R 0 0))) ∧ (∀ j, j < q → iv m 112 j = nI (pD (R 0 0) (R 1 0) r j)) ∧ ∀ i, i < R 1 0 → iv m 111 i = nI (pD (R 0 0) (R 1 0) r i)) (fun q _ => [(0, .ref 95), (1, .int t), (2, .int (nI (R 0 0 ^ R 1 0))), (3, .int (nI (cntN w (pD (R 0 0) (R 1 0) r) (R 1 0)))), (4, .int (nI r)), (5, .int (nI (rdN (R 0 0) r (R 1 0)))), (6, .int (nI (cntN w (pD (R 0 0) (R 1 0) r) (R 1 0)))), (7, .int (nI q))]) (fun _ m => m) (R 1 0) (fun q m hq hI ih2 => ?_) (fun m hI => ?_) _ ⟨hS, hA, h113, fun j hj => absurd hj (Nat.not_lt_zero _), fun i hi => h111 i hi (by omega)⟩
          · obtain ⟨hS, hA, h113, h112, h111⟩ := hI
            have hM2 := hM.ag hA (by decide) (fun r h1 h2 => by omega)
            refine PW.iload rfl dX6_stow_142 ?_
            refine PW.aload_n rfl rfl dX6_stow_144 ?_
            refine PW.gI hS.1 (by decide) rfl (hM2.2.1) fX6_86 dX6_stow_145 ?_
            refine PW.icmp_geN 171 (by decide) (by first | omega | (split <;> omega)) (by first | omega | (split <;> omega)) dX6_stow_148 (fun hc148 => by (first | (exfalso; omega) | exact absurd hc148 (nI_pos (by omega)))) (fun hc148 => ?_)
            refine PW.aload_n rfl rfl dX6_stow_151 ?_
            refine PW.gR hS.1 (by decide) rfl fX6_59 dX6_stow_152 ?_
            refine PW.iload rfl dX6_stow_155 ?_
            refine PW.aload_n rfl rfl dX6_stow_157 ?_
            refine PW.gR hS.1 (by decide) rfl fX6_56 dX6_stow_158 ?_
            refine PW.iload rfl dX6_stow_161 ?_
            refine PW.aI hS.1 (by decide) rfl (by exact rfl) ⟨by omega, by decide⟩ (h111 q hq) dX6_stow_163 ?_
            refine PW.uI hS (by decide) rfl (by exact rfl) ⟨by omega, by decide⟩ dX6_stow_164 (fun hS hw164 => ?_)
            refine PW.iincN rfl (by decide) dX6_stow_165 (?_ : PW _ _ _ _ [(0, _), (1, _), (2, _), (3, _), (4, _), (5, _), (6, _), (7, _)] _ _ _)
            refine PW.goto 142 (by decide) dX6_stow_168 ?_
            refine ih2 _ ⟨hS, hA.tr (Ag.wI (fun h => h.2.1 rfl)), fun q hq => by rw [iv_wI_ne (by decide)]; exact h113 q hq, fun j hj => ?_, fun q hq => by rw [iv_wI_ne (by decide)]; exact h111 q hq⟩
            rw [hw164]
            by_cases e : j = q
            · rw [if_pos e, e]
            · rw [if_neg e]; exact h112 j (by omega)
          · obtain ⟨hS, hA, h113, h112, h111⟩ := hI
            have hM2 := hM.ag hA (by decide) (fun r h1 h2 => by omega)
            refine PW.iload rfl dX6_stow_142 ?_
            refine PW.aload_n rfl rfl dX6_stow_144 ?_
            refine PW.gI hS.1 (by decide) rfl (hM2.2.1) fX6_86 dX6_stow_145 ?_
            refine PW.icmp_geN 171 (by decide) (by first | omega | (split <;> omega)) (by first | omega | (split <;> omega)) dX6_stow_148 (fun hc148 => ?_) (fun hc148 => by (first | (exfalso; omega) | exact absurd hc148 (nI_pos (by omega))))
            refine PW.iincN rfl (by decide) dX6_stow_171 (?_ : PW _ _ _ _ [(0, _), (1, _), (2, _), (3, _), (4, _), (5, _), (6, _), (7, _)] _ _ _)
            refine PW.goto 67 (by decide) dX6_stow_174 ?_
            exact PW.drop _ (fun r h => List.mem_of_mem_take (i := 5) h) (ih _ ⟨hS, hA, h113, fun _ => h112⟩)
        · rw [if_neg (fun h => hlt h.2)] at es
          rw [es] at ih
          refine PW.istore (by decide) dX6_stow_123 (?_ : PW _ _ _ _ [(0, _), (1, _), (2, _), (3, _), (4, _), (5, _), (6, _)] _ _ _)
          refine PW.iload rfl dX6_stow_125 ?_
          refine PW.if_lt 171 (by decide) dX6_stow_127 (fun hc127 => by (first | (exfalso; omega) | exact absurd hc127 (nI_pos (by omega)))) (fun hc127 => ?_)
          refine PW.iload rfl dX6_stow_130 ?_
          refine PW.iload_n rfl rfl dX6_stow_132 ?_
          refine PW.icmp_geN 171 (by decide) (by first | omega | (split <;> omega)) (by first | omega | (split <;> omega)) dX6_stow_133 (fun hc133 => ?_) (fun hc133 => by (first | (exfalso; omega) | exact absurd hc133 (nI_pos (by omega))))
          refine PW.iincN rfl (by decide) dX6_stow_171 (?_ : PW _ _ _ _ [(0, _), (1, _), (2, _), (3, _), (4, _), (5, _), (6, _)] _ _ _)
          refine PW.goto 67 (by decide) dX6_stow_174 ?_
          exact PW.drop _ (fun r h => List.mem_of_mem_take (i := 5) h) (ih _ ⟨hS, hA, h113, h112⟩)
      · have eel : elS R w (pD (R 0 0) (R 1 0) r) = -1 := if_neg hok
        rw [eel]
        rw [if_neg (fun h => hok h.1)] at es
        rw [es] at ih
        refine PW.istore (by decide) dX6_stow_123 (?_ : PW _ _ _ _ [(0, _), (1, _), (2, _), (3, _), (4, _), (5, _), (6, _)] _ _ _)
        refine PW.iload rfl dX6_stow_125 ?_
        refine PW.if_lt 171 (by decide) dX6_stow_127 (fun hc127 => ?_) (fun hc127 => by exact absurd (by decide) hc127)
        refine PW.iincN rfl (by decide) dX6_stow_171 (?_ : PW _ _ _ _ [(0, _), (1, _), (2, _), (3, _), (4, _), (5, _), (6, _)] _ _ _)
        refine PW.goto 67 (by decide) dX6_stow_174 ?_
        exact PW.drop _ (fun r h => List.mem_of_mem_take (i := 5) h) (ih _ ⟨hS, hA, h113, h112⟩)
    · obtain ⟨hS, hA, h113, h112⟩ := hI
      have hM2 := hM.ag hA (by decide) (fun r h1 h2 => by omega)
      generalize hq : stB R w (R 0 0 ^ R 1 0) = q at h112 ⊢
      have hq1 : q.1 ≤ 100000 := by
        rcases stB_spec (R := R) (w := w) hT (R 0 0 ^ R 1 0) with h | h
        · rw [← hq, h.1]; exact Nat.le_refl _
        · rw [← hq]; exact Nat.le_of_lt h.1
      by_cases h1 : q.1 = 100000
      · rw [if_pos h1]
        refine PW.iload rfl dX6_stow_67 ?_
        refine PW.iload_n rfl rfl dX6_stow_69 ?_
        refine PW.icmp_geN 177 (by decide) (by first | omega | (split <;> omega)) (by first | omega | (split <;> omega)) dX6_stow_70 (fun hc70 => ?_) (fun hc70 => by (exfalso; omega))
        refine PW.iload_n rfl rfl dX6_stow_177 ?_
        refine PW.ldc cX6_222 dX6_stow_178 ?_
        rw [show (100000 : Int32) = nI 100000 from rfl]
        refine PW.icmp_neN 188 (by decide) (by first | omega | (split <;> omega)) (by first | omega | (split <;> omega)) dX6_stow_180 (fun hc180 => by (exfalso; omega)) (fun hc180 => ?_)
        refine PW.bipush (v := -9) (by decide) dX6_stow_183 ?_
        refine PW.goto 202 (by decide) dX6_stow_185 ?_
        refine PW.iret rfl (Nat.le_refl _) (Nat.le_refl _) dX6_stow_202 ?_
        exact ⟨rfl, hS, hA⟩
      · rw [if_neg h1]
        by_cases ht1 : t = -1
        · subst ht1
          rw [if_pos rfl]
          refine PW.iload rfl dX6_stow_67 ?_
          refine PW.iload_n rfl rfl dX6_stow_69 ?_
          refine PW.icmp_geN 177 (by decide) (by first | omega | (split <;> omega)) (by first | omega | (split <;> omega)) dX6_stow_70 (fun hc70 => ?_) (fun hc70 => by (first | (exfalso; omega) | exact absurd hc70 (by decide)))
          refine PW.iload_n rfl rfl dX6_stow_177 ?_
          refine PW.ldc cX6_222 dX6_stow_178 ?_
          rw [show (100000 : Int32) = nI 100000 from rfl]
          refine PW.icmp_neN 188 (by decide) (by first | omega | (split <;> omega)) (by first | omega | (split <;> omega)) dX6_stow_180 (fun hc180 => ?_) (fun hc180 => by (first | (exfalso; omega) | exact absurd hc180 (by decide)))
          refine PW.iload_n rfl rfl dX6_stow_188 ?_
          refine PW.if_ge 196 (by decide) dX6_stow_189 (fun hc189 => by (first | (exfalso; omega) | exact absurd hc189 (by decide))) (fun hc189 => ?_)
          refine PW.iload_n rfl rfl dX6_stow_192 ?_
          refine PW.goto 202 (by decide) dX6_stow_193 ?_
          refine PW.iret rfl (Nat.le_refl _) (Nat.le_refl _) dX6_stow_202 ?_
          exact ⟨rfl, hS, hA⟩
        · have hg2 := hg.resolve_left ht1
          obtain ⟨j, hj, rfl⟩ := inR_of hg2
          rw [if_neg ht1, cl_nI (by omega)]
          refine PW.iload rfl dX6_stow_67 ?_
          refine PW.iload_n rfl rfl dX6_stow_69 ?_
          refine PW.icmp_geN 177 (by decide) (by first | omega | (split <;> omega)) (by first | omega | (split <;> omega)) dX6_stow_70 (fun hc70 => ?_) (fun hc70 => by (first | (exfalso; omega) | exact absurd (Int32.not_lt.mp (nI_pos (by omega))) hc70))
          refine PW.iload_n rfl rfl dX6_stow_177 ?_
          refine PW.ldc cX6_222 dX6_stow_178 ?_
          rw [show (100000 : Int32) = nI 100000 from rfl]
          refine PW.icmp_neN 188 (by decide) (by first | omega | (split <;> omega)) (by first | omega | (split <;> omega)) dX6_stow_180 (fun hc180 => ?_) (fun hc180 => by (first | (exfalso; omega) | exact absurd (Int32.not_lt.mp (nI_pos (by omega))) hc180))
          refine PW.iload_n rfl rfl dX6_stow_188 ?_
          refine PW.if_ge 196 (by decide) dX6_stow_189 (fun hc189 => ?_) (fun hc189 => by (first | (exfalso; omega) | exact absurd (Int32.not_lt.mp (nI_pos (by omega))) hc189))
          refine PW.aload_n rfl rfl dX6_stow_196 ?_
          refine PW.gR hS.1 (by decide) rfl fX6_59 dX6_stow_197 ?_
          refine PW.iload_n rfl rfl dX6_stow_200 ?_
          refine PW.aI hS.1 (by decide) rfl (by exact rfl) ⟨by omega, by decide⟩ (h112 h1 j hj) dX6_stow_201 ?_
          refine PW.iret rfl (Nat.le_refl _) (Nat.le_refl _) dX6_stow_202 ?_
          exact ⟨rfl, hS, hA⟩
  · rw [stwS, if_neg hg]
    refine Ret.of (by decide) (Nat.le_of_ble_eq_true rfl) fun l G => ?_
    show PW _ _ _ _ [(0, _), (1, _)] _ _ _
    refine PW.iload_n rfl rfl dX6_stow_0 ?_
    refine PW.i2l dX6_stow_1 ?_
    refine PW.ldc2 cX6_227 dX6_stow_2 ?_
    refine PW.aload_n rfl rfl dX6_stow_5 ?_
    refine PW.gI hS.1 (by decide) rfl (hM.2.1) fX6_86 dX6_stow_6 ?_
    refine PW.iconst (v := nI 1) (by decide) dX6_stow_9 ?_
    refine PW.isub dX6_stow_10 ?_
    refine PW.i2l dX6_stow_11 ?_
    refine PW.cS _ kX6_82 (m_in _ _ _ mem) rfl rfl (Nat.le_of_ble_eq_true rfl) ⟨by decide, by decide⟩ ⟨Nat.zero_le _, Nat.zero_le _⟩ dX6_stow_12 ?_
    refine PW.if_neB 20 (by decide) dX6_stow_15 (fun hc15 => by exact absurd (hin.mp hc15) hg) (fun hc15 => ?_)
    refine PW.iconst (v := -1) (by decide) dX6_stow_18 ?_
    refine PW.iret rfl (Nat.le_refl _) (Nat.le_refl _) dX6_stow_19 ?_
    exact ⟨rfl, hS, Ag.rf⟩
end MSTX
