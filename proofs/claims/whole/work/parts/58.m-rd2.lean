/-! ===== the model reads a thing, a pocket ===== -/
section MRE
variable {b s : Nat} {sc : pw_E} {mem m1 : pw_M} {R : DR} {n : Nat} {f : Nat → Nat} {t : Nat × Nat × Nat × Nat}
set_option maxHeartbeats 8000000 in
theorem m_readThing (hS : St b s sc mem) (hX : TM mem n f) (hn : n ≤ 200) (hf : ∀ i, i < n → f i < 256) (hM : RM mem R) (hV : Inv R) (ht : MT mem t) (hq : t.2.2.2 ≤ n) (hh : t.1 = 116) : Ret 4 0 0 mX6_readThing [.ref 95] mem (RdQ b s sc mem f n t R) := by
  have h6 := hV.1.1
  have hT6 := hV.1.2.1
  have hY6 := hV.1.2.2.1
  have hR : Rn mem mem := Rn.rf
  have h15 := ht.1
  have hfm : frm t.1 = [3, 4, 2, 6] := by rw [hh]; rfl
  have htl : ∀ sd, tell t.1 R sd = tellT R sd := fun sd => by rw [hh]; rfl
  by_cases hfull : R 1 0 = 6
  · have hrm : rom t.1 R = false := by rw [hh]; exact decide_eq_false (by omega)
    refine Ret.of (by decide) (Nat.le_of_ble_eq_true rfl) fun l G => ?_
    show PW _ _ _ _ [(0, _)] _ _ _
    refine PW.aload_n rfl rfl dX6_readThing_0 ?_
    refine PW.gI hS.1 (by decide) rfl (hM.2.1) fX6_124 dX6_readThing_1 ?_
    refine PW.bipush (v := nI 6) (by decide) dX6_readThing_4 ?_
    refine PW.icmp_eqN 55 (by decide) (by first | omega | (split <;> omega)) (by first | omega | (split <;> omega)) dX6_readThing_6 (fun hc6 => ?_) (fun hc6 => by exfalso; omega)
    refine PW.iconst (v := nI 0) (by decide) dX6_readThing_55 ?_
    refine PW.zret rfl (by first | exact bI_nar _ | rfl) (Nat.le_refl _) (Nat.le_refl _) dX6_readThing_56 ?_
    exact RdQ.no (rdi_full hrm) hS Mk.rf ht.2.2.2
  have hrm : rom t.1 R = true := by rw [hh]; exact decide_eq_true (by omega)
  have hA : AS mem f n (R 0 0) [] t.2.2.2 := ⟨rfl, h15, fun j hj => absurd hj (Nat.not_lt_zero _)⟩
  refine Ret.of (by decide) (Nat.le_of_ble_eq_true rfl) fun l G => ?_
  show PW _ _ _ _ [(0, _)] _ _ _
  have hc1 := m_take hS (hX.rn hR) hn hf hq [] [3] 3 rfl (by decide) hA (lo := 0) (hi := nI 5) (by decide) (role_k (fun _ _ => rfl) (by decide))
  refine PW.aload_n rfl rfl dX6_readThing_0 ?_
  refine PW.gI hS.1 (by decide) rfl (hM.2.1) fX6_124 dX6_readThing_1 ?_
  refine PW.bipush (v := nI 6) (by decide) dX6_readThing_4 ?_
  refine PW.icmp_eqN 55 (by decide) (by first | omega | (split <;> omega)) (by first | omega | (split <;> omega)) dX6_readThing_6 (fun hc6 => by exfalso; omega) (fun hc6 => ?_)
  refine PW.aload_n rfl rfl dX6_readThing_9 ?_
  refine PW.iconst (v := nI 0) (by decide) dX6_readThing_10 ?_
  refine PW.iconst (v := nI 0) (by decide) dX6_readThing_11 ?_
  refine PW.iconst (v := nI 5) (by decide) dX6_readThing_12 ?_
  refine PW.dV (ci := 6) (j := 0) _ hS.1 (by decide) rfl kX6_120 (hc1) rfl rfl (Nat.le_of_ble_eq_true rfl) rfl ⟨by decide, by decide⟩ ⟨Nat.zero_le _, Nat.zero_le _⟩ dX6_readThing_13 (fun v m1 q => ?_)
  obtain ⟨rfl, hS, hR1, hT1, hF1, -⟩ := q
  skip
  have hR := hR.tr hR1
  cases hb : (arg f n (R 0 0) [3] 0 (fun _ => 0) t.2.2.2).1
  · refine PW.if_eqB 55 (by decide) dX6_readThing_16 (fun hc16 => ?_) (fun hc16 => by cases hc16)
    refine PW.iconst (v := nI 0) (by decide) dX6_readThing_55 ?_
    refine PW.zret rfl (by first | exact bI_nar _ | rfl) (Nat.le_refl _) (Nat.le_refl _) dX6_readThing_56 ?_
    exact RdQ.no (rdi_stop (l := [3]) (l2 := [4, 2, 6]) hfm (by decide) hrm hb) hS hR.mk (hF1 hb)
  have hA := hT1 hb
  have hc2 := m_take hS (hX.rn hR) hn hf hq [3] [3, 4] 4 rfl (by decide) hA (lo := 1) (hi := nI 5) (by decide) (role_k (fun _ _ => rfl) (by decide))
  refine PW.if_eqB 55 (by decide) dX6_readThing_16 (fun hc16 => by cases hc16) (fun hc16 => ?_)
  refine PW.aload_n rfl rfl dX6_readThing_19 ?_
  refine PW.iconst (v := nI 1) (by decide) dX6_readThing_20 ?_
  refine PW.iconst (v := nI 1) (by decide) dX6_readThing_21 ?_
  refine PW.iconst (v := nI 5) (by decide) dX6_readThing_22 ?_
  refine PW.dV (ci := 6) (j := 0) _ hS.1 (by decide) rfl kX6_120 (hc2) rfl rfl (Nat.le_of_ble_eq_true rfl) rfl ⟨by decide, by decide⟩ ⟨Nat.zero_le _, Nat.zero_le _⟩ dX6_readThing_23 (fun v m1 q => ?_)
  obtain ⟨rfl, hS, hR1, hT1, hF1, -⟩ := q
  skip
  have hR := hR.tr hR1
  cases hb : (arg f n (R 0 0) [3, 4] 0 (fun _ => 0) t.2.2.2).1
  · refine PW.if_eqB 55 (by decide) dX6_readThing_26 (fun hc26 => ?_) (fun hc26 => by cases hc26)
    refine PW.iconst (v := nI 0) (by decide) dX6_readThing_55 ?_
    refine PW.zret rfl (by first | exact bI_nar _ | rfl) (Nat.le_refl _) (Nat.le_refl _) dX6_readThing_56 ?_
    exact RdQ.no (rdi_stop (l := [3, 4]) (l2 := [2, 6]) hfm (by decide) hrm hb) hS hR.mk (hF1 hb)
  have hA := hT1 hb
  have hc3 := m_take hS (hX.rn hR) hn hf hq [3, 4] [3, 4, 2] 2 rfl (by decide) hA (lo := 0) (hi := nI 9) (by decide) (role_k (fun _ _ => rfl) (by decide))
  refine PW.if_eqB 55 (by decide) dX6_readThing_26 (fun hc26 => by cases hc26) (fun hc26 => ?_)
  refine PW.aload_n rfl rfl dX6_readThing_29 ?_
  refine PW.iconst (v := nI 2) (by decide) dX6_readThing_30 ?_
  refine PW.iconst (v := nI 0) (by decide) dX6_readThing_31 ?_
  refine PW.bipush (v := nI 9) (by decide) dX6_readThing_32 ?_
  refine PW.dV (ci := 6) (j := 0) _ hS.1 (by decide) rfl kX6_120 (hc3) rfl rfl (Nat.le_of_ble_eq_true rfl) rfl ⟨by decide, by decide⟩ ⟨Nat.zero_le _, Nat.zero_le _⟩ dX6_readThing_34 (fun v m1 q => ?_)
  obtain ⟨rfl, hS, hR1, hT1, hF1, -⟩ := q
  skip
  have hR := hR.tr hR1
  cases hb : (arg f n (R 0 0) [3, 4, 2] 0 (fun _ => 0) t.2.2.2).1
  · refine PW.if_eqB 55 (by decide) dX6_readThing_37 (fun hc37 => ?_) (fun hc37 => by cases hc37)
    refine PW.iconst (v := nI 0) (by decide) dX6_readThing_55 ?_
    refine PW.zret rfl (by first | exact bI_nar _ | rfl) (Nat.le_refl _) (Nat.le_refl _) dX6_readThing_56 ?_
    exact RdQ.no (rdi_stop (l := [3, 4, 2]) (l2 := [6]) hfm (by decide) hrm hb) hS hR.mk (hF1 hb)
  have hA := hT1 hb
  have hc4 := m_take hS (hX.rn hR) hn hf hq [3, 4, 2] [3, 4, 2, 6] 6 rfl (by decide) hA (lo := 0) (hi := nI (R 0 0) - nI 1) (by decide) (role_6 h6)
  refine PW.if_eqB 55 (by decide) dX6_readThing_37 (fun hc37 => by cases hc37) (fun hc37 => ?_)
  refine PW.aload_n rfl rfl dX6_readThing_40 ?_
  refine PW.iconst (v := nI 3) (by decide) dX6_readThing_41 ?_
  refine PW.iconst (v := nI 0) (by decide) dX6_readThing_42 ?_
  refine PW.aload_n rfl rfl dX6_readThing_43 ?_
  refine PW.gI hS.1 (by decide) rfl ((hM.rn hR).1) fX6_117 dX6_readThing_44 ?_
  refine PW.iconst (v := nI 1) (by decide) dX6_readThing_47 ?_
  refine PW.isub dX6_readThing_48 ?_
  refine PW.dV (ci := 6) (j := 0) _ hS.1 (by decide) rfl kX6_120 (hc4) rfl rfl (Nat.le_of_ble_eq_true rfl) rfl ⟨by decide, by decide⟩ ⟨Nat.zero_le _, Nat.zero_le _⟩ dX6_readThing_49 (fun v m1 q => ?_)
  obtain ⟨rfl, hS, hR1, hT1, hF1, -⟩ := q
  skip
  have hR := hR.tr hR1
  cases hb : (arg f n (R 0 0) [3, 4, 2, 6] 0 (fun _ => 0) t.2.2.2).1
  · refine PW.if_neB 57 (by decide) dX6_readThing_52 (fun hc52 => by cases hc52) (fun hc52 => ?_)
    refine PW.iconst (v := nI 0) (by decide) dX6_readThing_55 ?_
    refine PW.zret rfl (by first | exact bI_nar _ | rfl) (Nat.le_refl _) (Nat.le_refl _) dX6_readThing_56 ?_
    exact RdQ.no (rdi_no hfm (by decide) hrm hb) hS hR.mk (hF1 hb)
  have hA := hT1 hb
  have hok : ∀ j, j < 4 → mbB (R 0 0) ([3, 4, 2, 6].getD j 0) ((arg f n (R 0 0) [3, 4, 2, 6] 0 (fun _ => 0) t.2.2.2).2.2 0) ((arg f n (R 0 0) [3, 4, 2, 6] 0 (fun _ => 0) t.2.2.2).2.2 j) = true := fun j hj => by have := (arg_ok (f := f) (n := n) (P := R 0 0) [3, 4, 2, 6] 0 (fun _ => 0) t.2.2.2 hb).2 j hj; rw [Nat.zero_add] at this; exact this
  have hrd := rdi_ok hfm (by decide) hrm hb
  obtain ⟨-, a15, a9⟩ := hA
  have hM1 := hM.rn hR
  generalize arg f n (R 0 0) [3, 4, 2, 6] 0 (fun _ => 0) t.2.2.2 = A at hok hrd a15 a9 hb
  generalize A.2.2 = sd at hok hrd a9
  generalize A.2.1 = pl at hrd a15
  have v0 : iv m1 109 0 = nI (sd 0) := a9 0 (by decide)
  have v1 : iv m1 109 1 = nI (sd 1) := a9 1 (by decide)
  have v2 : iv m1 109 2 = nI (sd 2) := a9 2 (by decide)
  have v3 : iv m1 109 3 = nI (sd 3) := a9 3 (by decide)
  have o0 : decide (0 ≤ sd 0 ∧ sd 0 ≤ 5) = true := hok 0 (by decide)
  have o0 := of_decide_eq_true o0
  have o1 : decide (1 ≤ sd 1 ∧ sd 1 ≤ 5) = true := hok 1 (by decide)
  have o1 := of_decide_eq_true o1
  have o2 : decide (0 ≤ sd 2 ∧ sd 2 ≤ 9) = true := hok 2 (by decide)
  have o2 := of_decide_eq_true o2
  have o3 : decide (sd 3 < R 0 0) = true := hok 3 (by decide)
  have o3 := of_decide_eq_true o3
  rw [htl] at hrd
  have hv : ∀ j, j < 4 → iv m1 109 j = nI (sd j) := fun j hj => a9 j hj
  refine PW.if_neB 57 (by decide) dX6_readThing_52 (fun hc52 => ?_) (fun hc52 => by (first | (exfalso; omega) | cases hc52))
  refine PW.iconst (v := nI 0) (by decide) dX6_readThing_57 ?_
  refine PW.istore_n rfl (by decide) dX6_readThing_58 (?_ : PW _ _ _ _ [(0, _), (1, _)] _ _ _)
  skip
  refine PW.loop (I := fun j m => St b s sc m ∧ Ag (fun r => r ≠ 108) m1 m ∧ ∀ q, iv m 108 q = if 4 * R 1 0 ≤ q ∧ q < 4 * R 1 0 + j then nI (sd (q - 4 * R 1 0)) else iv m1 108 q) (fun j _ => [(0, .ref 95), (1, .int (nI j))]) (fun _ m => m) 4 (fun j m hj hJ ih => ?_) (fun m hJ => ?_) _ ⟨hS, Ag.rf, fun q => by rw [if_neg (by omega)]⟩
  · obtain ⟨hS, hB, h8⟩ := hJ
    refine PW.iload_n rfl rfl dX6_readThing_59 ?_
    refine PW.iconst (v := nI 4) (by decide) dX6_readThing_60 ?_
    refine PW.icmp_geN 89 (by decide) (by first | omega | (split <;> omega)) (by first | omega | (split <;> omega)) dX6_readThing_61 (fun hc61 => by (first | (exfalso; omega) | cases hc61)) (fun hc61 => ?_)
    refine PW.aload_n rfl rfl dX6_readThing_64 ?_
    refine PW.gR hS.1 (by decide) rfl fX6_47 dX6_readThing_65 ?_
    refine PW.iconst (v := nI 4) (by decide) dX6_readThing_68 ?_
    refine PW.aload_n rfl rfl dX6_readThing_69 ?_
    refine PW.gI hS.1 (by decide) rfl ((hB.fi (by decide) 25).trans hM1.2.1) fX6_124 dX6_readThing_70 ?_
    refine PW.imulN dX6_readThing_73 ?_
    refine PW.iload_n rfl rfl dX6_readThing_74 ?_
    refine PW.iaddN dX6_readThing_75 ?_
    refine PW.aload_n rfl rfl dX6_readThing_76 ?_
    refine PW.gR hS.1 (by decide) rfl fX6_50 dX6_readThing_77 ?_
    refine PW.iload_n rfl rfl dX6_readThing_80 ?_
    refine PW.aI hS.1 (by decide) rfl (by exact rfl) ⟨by omega, by decide⟩ ((hB.iv (by decide) j).trans (hv j hj)) dX6_readThing_81 ?_
    refine PW.uI hS (by decide) rfl (by exact rfl) ⟨by omega, by decide⟩ dX6_readThing_82 (fun hS hw82 => ?_)
    refine PW.iincN rfl (by decide) dX6_readThing_83 (?_ : PW _ _ _ _ [(0, _), (1, _)] _ _ _)
    refine PW.goto 59 (by decide) dX6_readThing_86 ?_
    refine ih _ ⟨hS, hB.tr (Ag.wI (fun h => h rfl)), fun q => ?_⟩
    rw [hw82, h8]
    by_cases z : q = 4 * R 1 0 + j
    · rw [if_pos z, if_pos (by omega), z, Nat.add_sub_cancel_left]
    · rw [if_neg z]
      by_cases z2 : 4 * R 1 0 ≤ q ∧ q < 4 * R 1 0 + j
      · rw [if_pos z2, if_pos (by omega)]
      · rw [if_neg z2, if_neg (by omega)]
  · obtain ⟨hS, hB, h8⟩ := hJ
    have h25 := (hB.fi (r := 95) (by decide) 25).trans hM1.2.1
    have hK : Mk mem m := ⟨hR.mk.1.tr (hB.mono (fun r z => by have := z.2; omega)), fun j hj => (hB.fv (r := 95) (by decide) j).trans (hR.mk.2 j hj)⟩
    refine PW.iload_n rfl rfl dX6_readThing_59 ?_
    refine PW.iconst (v := nI 4) (by decide) dX6_readThing_60 ?_
    refine PW.icmp_geN 89 (by decide) (by first | omega | (split <;> omega)) (by first | omega | (split <;> omega)) dX6_readThing_61 (fun hc61 => ?_) (fun hc61 => by (first | (exfalso; omega) | cases hc61))
    refine PW.aload_n rfl rfl dX6_readThing_89 ?_
    refine PW.dup rfl dX6_readThing_90 ?_
    refine PW.gI hS.1 (by decide) rfl (h25) fX6_124 dX6_readThing_91 ?_
    refine PW.iconst (v := nI 1) (by decide) dX6_readThing_94 ?_
    refine PW.iaddN dX6_readThing_95 ?_
    refine PW.tI hS (by decide) rfl pX6_124 dX6_readThing_96 (fun hS hw96 => ?_)
    refine PW.iconst (v := nI 1) (by decide) dX6_readThing_99 ?_
    refine PW.zret rfl (by first | exact bI_nar _ | rfl) (Nat.le_refl _) (Nat.le_refl _) dX6_readThing_100 ?_
    refine RdQ.ok hrd hS (hK.wF (by decide)) ((fi_wF_ne (Or.inr (by decide))).trans ((hB.fi (r := 95) (by decide) 15).trans a15)) ?_
    obtain ⟨x1, x2, x3, x4, x5, x6⟩ := hM1
    refine ⟨(fi_wF_ne (Or.inr (by decide))).trans ((hB.fi (r := 95) (by decide) 20).trans x1), hw96, (fi_wF_ne (Or.inr (by decide))).trans ((hB.fi (r := 95) (by decide) 23).trans x3), fun k hk => ?_, fun a c ha hc => ?_, fun u hu => ?_⟩
    · simp only [iv_wF, hB.iv (r := 105) (by decide)]; exact x4 k hk
    · simp only [iv_wF, hB.iv (r := 106) (by decide), hB.iv (r := 107) (by decide)]; exact x5 a c ha hc
    · have hu : u < R 1 0 + 1 := hu
      show _ = nI (if u = R 1 0 then sd 0 else R 13 u) ∧ _ = nI (if u = R 1 0 then sd 1 else R 14 u) ∧ _ = nI (if u = R 1 0 then sd 2 else R 15 u) ∧ _ = nI (if u = R 1 0 then sd 3 else R 16 u)
      rw [iv_wF, h8, iv_wF, h8, iv_wF, h8, iv_wF, h8]
      by_cases z : u = R 1 0
      · rw [if_pos (by omega), if_pos z, if_pos (by omega), if_pos z, if_pos (by omega), if_pos z, if_pos (by omega), if_pos z, show 4 * u - 4 * R 1 0 = 0 by omega, show 4 * u + 1 - 4 * R 1 0 = 1 by omega, show 4 * u + 2 - 4 * R 1 0 = 2 by omega, show 4 * u + 3 - 4 * R 1 0 = 3 by omega]
        exact ⟨rfl, rfl, rfl, rfl⟩
      · rw [if_neg (by omega), if_neg z, if_neg (by omega), if_neg z, if_neg (by omega), if_neg z, if_neg (by omega), if_neg z]
        exact x6 u (by omega)
set_option maxHeartbeats 8000000 in
theorem m_readPocket (hS : St b s sc mem) (hX : TM mem n f) (hn : n ≤ 200) (hf : ∀ i, i < n → f i < 256) (hM : RM mem R) (hV : Inv R) (ht : MT mem t) (hq : t.2.2.2 ≤ n) (hh : t.1 = 107) : Ret 4 0 0 mX6_readPocket [.ref 95] mem (RdQ b s sc mem f n t R) := by
  have h6 := hV.1.1
  have hT6 := hV.1.2.1
  have hY6 := hV.1.2.2.1
  have hR : Rn mem mem := Rn.rf
  have h15 := ht.1
  have hfm : frm t.1 = [0, 1, 2, 5] := by rw [hh]; rfl
  have htl : ∀ sd, tell t.1 R sd = tellK R sd := fun sd => by rw [hh]; rfl
  by_cases hfull : R 0 0 = 6
  · have hrm : rom t.1 R = false := by rw [hh]; exact decide_eq_false (by omega)
    refine Ret.of (by decide) (Nat.le_of_ble_eq_true rfl) fun l G => ?_
    show PW _ _ _ _ [(0, _)] _ _ _
    refine PW.aload_n rfl rfl dX6_readPocket_0 ?_
    refine PW.gI hS.1 (by decide) rfl (hM.1) fX6_117 dX6_readPocket_1 ?_
    refine PW.bipush (v := nI 6) (by decide) dX6_readPocket_4 ?_
    refine PW.icmp_eqN 42 (by decide) (by first | omega | (split <;> omega)) (by first | omega | (split <;> omega)) dX6_readPocket_6 (fun hc6 => ?_) (fun hc6 => by exfalso; omega)
    refine PW.iconst (v := nI 0) (by decide) dX6_readPocket_42 ?_
    refine PW.zret rfl (by first | exact bI_nar _ | rfl) (Nat.le_refl _) (Nat.le_refl _) dX6_readPocket_43 ?_
    exact RdQ.no (rdi_full hrm) hS Mk.rf ht.2.2.2
  have hrm : rom t.1 R = true := by rw [hh]; exact decide_eq_true (by omega)
  have hA : AS mem f n (R 0 0) [] t.2.2.2 := ⟨rfl, h15, fun j hj => absurd hj (Nat.not_lt_zero _)⟩
  refine Ret.of (by decide) (Nat.le_of_ble_eq_true rfl) fun l G => ?_
  show PW _ _ _ _ [(0, _)] _ _ _
  have hc1 := m_take hS (hX.rn hR) hn hf hq [] [0] 0 rfl (by decide) hA (lo := 1) (hi := nI 20) (by decide) (role_k (fun _ _ => rfl) (by decide))
  refine PW.aload_n rfl rfl dX6_readPocket_0 ?_
  refine PW.gI hS.1 (by decide) rfl (hM.1) fX6_117 dX6_readPocket_1 ?_
  refine PW.bipush (v := nI 6) (by decide) dX6_readPocket_4 ?_
  refine PW.icmp_eqN 42 (by decide) (by first | omega | (split <;> omega)) (by first | omega | (split <;> omega)) dX6_readPocket_6 (fun hc6 => by exfalso; omega) (fun hc6 => ?_)
  refine PW.aload_n rfl rfl dX6_readPocket_9 ?_
  refine PW.iconst (v := nI 0) (by decide) dX6_readPocket_10 ?_
  refine PW.iconst (v := nI 1) (by decide) dX6_readPocket_11 ?_
  refine PW.bipush (v := nI 20) (by decide) dX6_readPocket_12 ?_
  refine PW.dV (ci := 6) (j := 0) _ hS.1 (by decide) rfl kX6_120 (hc1) rfl rfl (Nat.le_of_ble_eq_true rfl) rfl ⟨by decide, by decide⟩ ⟨Nat.zero_le _, Nat.zero_le _⟩ dX6_readPocket_14 (fun v m1 q => ?_)
  obtain ⟨rfl, hS, hR1, hT1, hF1, -⟩ := q
  skip
  have hR := hR.tr hR1
  cases hb : (arg f n (R 0 0) [0] 0 (fun _ => 0) t.2.2.2).1
  · refine PW.if_eqB 42 (by decide) dX6_readPocket_17 (fun hc17 => ?_) (fun hc17 => by cases hc17)
    refine PW.iconst (v := nI 0) (by decide) dX6_readPocket_42 ?_
    refine PW.zret rfl (by first | exact bI_nar _ | rfl) (Nat.le_refl _) (Nat.le_refl _) dX6_readPocket_43 ?_
    exact RdQ.no (rdi_stop (l := [0]) (l2 := [1, 2, 5]) hfm (by decide) hrm hb) hS hR.mk (hF1 hb)
  have hA := hT1 hb
  have hc2 := m_take hS (hX.rn hR) hn hf hq [0] [0, 1] 1 rfl (by decide) hA (lo := 0) (hi := nI 63) (by decide) (role_k (fun _ _ => rfl) (by decide))
  refine PW.if_eqB 42 (by decide) dX6_readPocket_17 (fun hc17 => by cases hc17) (fun hc17 => ?_)
  refine PW.aload_n rfl rfl dX6_readPocket_20 ?_
  refine PW.iconst (v := nI 1) (by decide) dX6_readPocket_21 ?_
  refine PW.iconst (v := nI 0) (by decide) dX6_readPocket_22 ?_
  refine PW.bipush (v := nI 63) (by decide) dX6_readPocket_23 ?_
  refine PW.dV (ci := 6) (j := 0) _ hS.1 (by decide) rfl kX6_120 (hc2) rfl rfl (Nat.le_of_ble_eq_true rfl) rfl ⟨by decide, by decide⟩ ⟨Nat.zero_le _, Nat.zero_le _⟩ dX6_readPocket_25 (fun v m1 q => ?_)
  obtain ⟨rfl, hS, hR1, hT1, hF1, -⟩ := q
  skip
  have hR := hR.tr hR1
  cases hb : (arg f n (R 0 0) [0, 1] 0 (fun _ => 0) t.2.2.2).1
  · refine PW.if_eqB 42 (by decide) dX6_readPocket_28 (fun hc28 => ?_) (fun hc28 => by cases hc28)
    refine PW.iconst (v := nI 0) (by decide) dX6_readPocket_42 ?_
    refine PW.zret rfl (by first | exact bI_nar _ | rfl) (Nat.le_refl _) (Nat.le_refl _) dX6_readPocket_43 ?_
    exact RdQ.no (rdi_stop (l := [0, 1]) (l2 := [2, 5]) hfm (by decide) hrm hb) hS hR.mk (hF1 hb)
  have hA := hT1 hb
  have hc3 := m_take hS (hX.rn hR) hn hf hq [0, 1] [0, 1, 2] 2 rfl (by decide) hA (lo := 0) (hi := nI 9) (by decide) (role_k (fun _ _ => rfl) (by decide))
  refine PW.if_eqB 42 (by decide) dX6_readPocket_28 (fun hc28 => by cases hc28) (fun hc28 => ?_)
  refine PW.aload_n rfl rfl dX6_readPocket_31 ?_
  refine PW.iconst (v := nI 2) (by decide) dX6_readPocket_32 ?_
  refine PW.iconst (v := nI 0) (by decide) dX6_readPocket_33 ?_
  refine PW.bipush (v := nI 9) (by decide) dX6_readPocket_34 ?_
  refine PW.dV (ci := 6) (j := 0) _ hS.1 (by decide) rfl kX6_120 (hc3) rfl rfl (Nat.le_of_ble_eq_true rfl) rfl ⟨by decide, by decide⟩ ⟨Nat.zero_le _, Nat.zero_le _⟩ dX6_readPocket_36 (fun v m1 q => ?_)
  obtain ⟨rfl, hS, hR1, hT1, hF1, -⟩ := q
  skip
  have hR := hR.tr hR1
  cases hb : (arg f n (R 0 0) [0, 1, 2] 0 (fun _ => 0) t.2.2.2).1
  · refine PW.if_neB 44 (by decide) dX6_readPocket_39 (fun hc39 => by cases hc39) (fun hc39 => ?_)
    refine PW.iconst (v := nI 0) (by decide) dX6_readPocket_42 ?_
    refine PW.zret rfl (by first | exact bI_nar _ | rfl) (Nat.le_refl _) (Nat.le_refl _) dX6_readPocket_43 ?_
    exact RdQ.no (rdi_stop (l := [0, 1, 2]) (l2 := [5]) hfm (by decide) hrm hb) hS hR.mk (hF1 hb)
  have hA := hT1 hb
  have hq3 := (arg_q (P := R 0 0) hn hf [0, 1, 2] 0 (fun _ => 0) t.2.2.2 hq).2
  have hsn := arg_snoc (f := f) (n := n) (P := R 0 0) (r := 5) [0, 1, 2] 0 (fun _ => 0) t.2.2.2 hb
  rw [show ([0, 1, 2] ++ [5] : List Nat) = [0, 1, 2, 5] from rfl, show 0 + [0, 1, 2].length = 3 from rfl] at hsn
  obtain ⟨-, a15, a9⟩ := hA
  have hM1 := hM.rn hR
  have hnt := m_nextToken hS (hX.rn hR) hn hf hq3 a15
  have hks := tk_spec hn hf hq3
  have k1 := rdi_ok (f := f) (n := n) (t := t) (R := R) hfm (by decide) hrm
  have k2 := rdi_no (f := f) (n := n) (t := t) (R := R) hfm (by decide) hrm
  rw [hsn] at k1 k2
  generalize arg f n (R 0 0) [0, 1, 2] 0 (fun _ => 0) t.2.2.2 = A at hsn a15 a9 hnt hks hq3 k1 k2
  generalize tk f n A.2.1 = u at hsn hnt hks k1 k2
  have v0 : iv m1 109 0 = nI (A.2.2 0) := a9 0 (by decide)
  have v1 : iv m1 109 1 = nI (A.2.2 1) := a9 1 (by decide)
  have v2 : iv m1 109 2 = nI (A.2.2 2) := a9 2 (by decide)
  refine PW.if_neB 44 (by decide) dX6_readPocket_39 (fun hc39 => ?_) (fun hc39 => by (first | (exfalso; omega) | cases hc39))
  refine PW.aload_n rfl rfl dX6_readPocket_44 ?_
  refine PW.dV (ci := 6) (j := 0) _ hS.1 (by decide) rfl kX6_114 (hnt) rfl rfl (Nat.le_of_ble_eq_true rfl) rfl ⟨by decide, by decide⟩ ⟨Nat.zero_le _, Nat.zero_le _⟩ dX6_readPocket_45 (fun v m1 q => ?_)
  obtain ⟨rfl, hS, hR1, hU⟩ := q
  skip
  have hR := hR.tr hR1.rn
  have hM2 := hM1.rn hR1.rn
  have hkM := tkM_le (k := u.1)
  have hva : vaM u < 256 := by
    unfold vaM
    split
    · omega
    · split <;> omega
  have hu6 : u.1 = 256 → vaM u = u.2.1 := fun h => if_pos h
  have z1 := tkM_1 (k := u.1)
  have em : ∀ x, mbB (R 0 0) 5 x u.2.1 = decide (u.2.1 < R 0 0 ∨ u.2.1 = 9) := fun _ => rfl
  rw [em] at k1 k2
  by_cases hg : u.1 = 256 ∧ decide (u.2.1 < R 0 0 ∨ u.2.1 = 9) = true
  · rw [if_pos hg] at k1
    have hrd := k1 rfl
    rw [htl] at hrd
    have hu := hu6 hg.1
    have hd := of_decide_eq_true hg.2
    have w0 : iv m1 109 0 = nI (A.2.2 0) := (hR1.1.iv (by decide) 0).trans v0
    have w1 : iv m1 109 1 = nI (A.2.2 1) := (hR1.1.iv (by decide) 1).trans v1
    have w2 : iv m1 109 2 = nI (A.2.2 2) := (hR1.1.iv (by decide) 2).trans v2
    have s0 : tset A.2.2 3 u.2.1 0 = A.2.2 0 := if_neg (by decide)
    have s1 : tset A.2.2 3 u.2.1 1 = A.2.2 1 := if_neg (by decide)
    have s2 : tset A.2.2 3 u.2.1 2 = A.2.2 2 := if_neg (by decide)
    have s3 : tset A.2.2 3 u.2.1 3 = u.2.1 := if_pos rfl
    rw [← s0] at w0
    rw [← s1] at w1
    rw [← s2] at w2
    generalize tset A.2.2 3 u.2.1 = sd at hrd w0 w1 w2 s3
    have h17 : fi m1 95 17 = nI (sd 3) := hU.2.2.1.trans (by rw [hu, s3])
    have hFr := hV.2.2 (R 0 0) (Nat.le_refl _) (by omega)
    have tailp : PW (l, G, mX6_readPocket, pw_rm 4 0 0, 0, 0) 0 0 78 [(0, .ref 95)] [] m1 (RdQ b s sc mem f n t R) := by
      refine PW.bipush (v := nI 8) (by decide) dX6_readPocket_78 ?_
      refine PW.aload_n rfl rfl dX6_readPocket_80 ?_
      refine PW.gI hS.1 (by decide) rfl (hM2.1) fX6_117 dX6_readPocket_81 ?_
      refine PW.imulN dX6_readPocket_84 ?_
      refine PW.istore_n rfl (by decide) dX6_readPocket_85 (?_ : PW _ _ _ _ [(0, _), (1, _)] _ _ _)
      refine PW.aload_n rfl rfl dX6_readPocket_86 ?_
      refine PW.gR hS.1 (by decide) rfl fX6_38 dX6_readPocket_87 ?_
      refine PW.iload_n rfl rfl dX6_readPocket_90 ?_
      refine PW.aload_n rfl rfl dX6_readPocket_91 ?_
      refine PW.gR hS.1 (by decide) rfl fX6_50 dX6_readPocket_92 ?_
      refine PW.iconst (v := nI 0) (by decide) dX6_readPocket_95 ?_
      refine PW.aI hS.1 (by decide) rfl (by exact rfl) ⟨by omega, by decide⟩ (w0) dX6_readPocket_96 ?_
      refine PW.uI hS (by decide) rfl (by exact rfl) ⟨by omega, by decide⟩ dX6_readPocket_97 (fun hS hw97 => ?_)
      refine PW.aload_n rfl rfl dX6_readPocket_98 ?_
      refine PW.gR hS.1 (by decide) rfl fX6_38 dX6_readPocket_99 ?_
      refine PW.iload_n rfl rfl dX6_readPocket_102 ?_
      refine PW.iconst (v := nI 1) (by decide) dX6_readPocket_103 ?_
      refine PW.iaddN dX6_readPocket_104 ?_
      refine PW.aload_n rfl rfl dX6_readPocket_105 ?_
      refine PW.gR hS.1 (by decide) rfl fX6_50 dX6_readPocket_106 ?_
      refine PW.iconst (v := nI 1) (by decide) dX6_readPocket_109 ?_
      refine PW.aI hS.1 (by decide) rfl (by exact rfl) ⟨by omega, by decide⟩ ((iv_wI_ne (by decide)).trans w1) dX6_readPocket_110 ?_
      refine PW.uI hS (by decide) rfl (by exact rfl) ⟨by omega, by decide⟩ dX6_readPocket_111 (fun hS hw111 => ?_)
      refine PW.aload_n rfl rfl dX6_readPocket_112 ?_
      refine PW.gR hS.1 (by decide) rfl fX6_38 dX6_readPocket_113 ?_
      refine PW.iload_n rfl rfl dX6_readPocket_116 ?_
      refine PW.iconst (v := nI 2) (by decide) dX6_readPocket_117 ?_
      refine PW.iaddN dX6_readPocket_118 ?_
      refine PW.aload_n rfl rfl dX6_readPocket_119 ?_
      refine PW.gR hS.1 (by decide) rfl fX6_50 dX6_readPocket_120 ?_
      refine PW.iconst (v := nI 2) (by decide) dX6_readPocket_123 ?_
      refine PW.aI hS.1 (by decide) rfl (by exact rfl) ⟨by omega, by decide⟩ ((iv_wI_ne (by decide)).trans ((iv_wI_ne (by decide)).trans w2)) dX6_readPocket_124 ?_
      refine PW.uI hS (by decide) rfl (by exact rfl) ⟨by omega, by decide⟩ dX6_readPocket_125 (fun hS hw125 => ?_)
      refine PW.aload_n rfl rfl dX6_readPocket_126 ?_
      refine PW.gR hS.1 (by decide) rfl fX6_38 dX6_readPocket_127 ?_
      refine PW.iload_n rfl rfl dX6_readPocket_130 ?_
      refine PW.iconst (v := nI 3) (by decide) dX6_readPocket_131 ?_
      refine PW.iaddN dX6_readPocket_132 ?_
      refine PW.aload_n rfl rfl dX6_readPocket_133 ?_
      refine PW.gI hS.1 (by decide) rfl (fi_wI.trans (fi_wI.trans (fi_wI.trans h17))) fX6_104 dX6_readPocket_134 ?_
      refine PW.uI hS (by decide) rfl (by exact rfl) ⟨by omega, by decide⟩ dX6_readPocket_137 (fun hS hw137 => ?_)
      refine PW.aload_n rfl rfl dX6_readPocket_138 ?_
      refine PW.gR hS.1 (by decide) rfl fX6_38 dX6_readPocket_139 ?_
      refine PW.iload_n rfl rfl dX6_readPocket_142 ?_
      refine PW.iconst (v := nI 4) (by decide) dX6_readPocket_143 ?_
      refine PW.iaddN dX6_readPocket_144 ?_
      refine PW.iconst (v := nI 0) (by decide) dX6_readPocket_145 ?_
      refine PW.uI hS (by decide) rfl (by exact rfl) ⟨by omega, by decide⟩ dX6_readPocket_146 (fun hS hw146 => ?_)
      refine PW.aload_n rfl rfl dX6_readPocket_147 ?_
      refine PW.gR hS.1 (by decide) rfl fX6_38 dX6_readPocket_148 ?_
      refine PW.iload_n rfl rfl dX6_readPocket_151 ?_
      refine PW.bipush (v := nI 6) (by decide) dX6_readPocket_152 ?_
      refine PW.iaddN dX6_readPocket_154 ?_
      refine PW.bipush (v := -9) (by decide) dX6_readPocket_155 ?_
      refine PW.uI hS (by decide) rfl (by exact rfl) ⟨by omega, by decide⟩ dX6_readPocket_157 (fun hS hw157 => ?_)
      refine PW.aload_n rfl rfl dX6_readPocket_158 ?_
      refine PW.dup rfl dX6_readPocket_159 ?_
      refine PW.gI hS.1 (by decide) rfl (fi_wI.trans (fi_wI.trans (fi_wI.trans (fi_wI.trans (fi_wI.trans (fi_wI.trans hM2.1)))))) fX6_117 dX6_readPocket_160 ?_
      refine PW.iconst (v := nI 1) (by decide) dX6_readPocket_163 ?_
      refine PW.iaddN dX6_readPocket_164 ?_
      refine PW.tI hS (by decide) rfl pX6_117 dX6_readPocket_165 (fun hS hw165 => ?_)
      refine PW.iconst (v := nI 1) (by decide) dX6_readPocket_168 ?_
      refine PW.zret rfl (by first | exact bI_nar _ | rfl) (Nat.le_refl _) (Nat.le_refl _) dX6_readPocket_169 ?_
      refine RdQ.ok hrd hS (((((((hR.mk.wI (by decide)).wI (by decide)).wI (by decide)).wI (by decide)).wI (by decide)).wI (by decide)).wF (by decide)) ((fi_wF_ne (Or.inr (by decide))).trans (fi_wI.trans (fi_wI.trans (fi_wI.trans (fi_wI.trans (fi_wI.trans (fi_wI.trans hU.1))))))) ?_
      obtain ⟨x1, x2, x3, x4, x5, x6⟩ := hM2
      refine ⟨hw165, (fi_wF_ne (Or.inr (by decide))).trans (fi_wI.trans (fi_wI.trans (fi_wI.trans (fi_wI.trans (fi_wI.trans (fi_wI.trans x2)))))), (fi_wF_ne (Or.inr (by decide))).trans (fi_wI.trans (fi_wI.trans (fi_wI.trans (fi_wI.trans (fi_wI.trans (fi_wI.trans x3)))))), fun k hk => ?_, fun a c ha hc => ?_, fun y hy => ?_⟩
      · have hk : k < R 0 0 + 1 := hk
        show _ = nI (if k = R 0 0 then sd 0 else R 3 k) ∧ _ = nI (if k = R 0 0 then sd 1 else R 4 k) ∧ _ = nI (if k = R 0 0 then sd 2 else R 5 k) ∧ _ = nI (if k = R 0 0 then sd 3 else R 6 k) ∧ _ = nI (R 7 k) ∧ (R 7 k ≠ 0 → _ = nI (R 8 k)) ∧ _ = hI (R 10 k) ∧ (R 10 k ≠ 9 → _ = nI (R 11 k))
        simp only [iv_wF, hw157, hw146, hw137, hw125, hw111, hw97]
        by_cases z : k = R 0 0
        · subst z
          refine ⟨?_, ?_, ?_, ?_, ?_, fun h => absurd hFr.1 h, ?_, fun h => absurd hFr.2 h⟩
          · rw [if_neg (by omega), if_neg (by omega), if_neg (by omega), if_neg (by omega), if_neg (by omega), if_pos rfl, if_pos rfl]
          · rw [if_neg (by omega), if_neg (by omega), if_neg (by omega), if_neg (by omega), if_pos rfl, if_pos rfl]
          · rw [if_neg (by omega), if_neg (by omega), if_neg (by omega), if_pos rfl, if_pos rfl]
          · rw [if_neg (by omega), if_neg (by omega), if_pos rfl, if_pos rfl]
          · rw [if_neg (by omega), if_pos rfl, hFr.1]
          · rw [if_pos rfl, hFr.2]; rfl
        · obtain ⟨y0, y1, y2, y3, y4, y5, y6, y7⟩ := x4 k (by omega)
          refine ⟨?_, ?_, ?_, ?_, ?_, ?_, ?_, ?_⟩
          · rw [if_neg (by omega), if_neg (by omega), if_neg (by omega), if_neg (by omega), if_neg (by omega), if_neg (by omega), if_neg z]; exact y0
          · rw [if_neg (by omega), if_neg (by omega), if_neg (by omega), if_neg (by omega), if_neg (by omega), if_neg (by omega), if_neg z]; exact y1
          · rw [if_neg (by omega), if_neg (by omega), if_neg (by omega), if_neg (by omega), if_neg (by omega), if_neg (by omega), if_neg z]; exact y2
          · rw [if_neg (by omega), if_neg (by omega), if_neg (by omega), if_neg (by omega), if_neg (by omega), if_neg (by omega), if_neg z]; exact y3
          · rw [if_neg (by omega), if_neg (by omega), if_neg (by omega), if_neg (by omega), if_neg (by omega), if_neg (by omega)]; exact y4
          · intro h; rw [if_neg (by omega), if_neg (by omega), if_neg (by omega), if_neg (by omega), if_neg (by omega), if_neg (by omega)]; exact y5 h
          · rw [if_neg (by omega), if_neg (by omega), if_neg (by omega), if_neg (by omega), if_neg (by omega), if_neg (by omega)]; exact y6
          · intro h; rw [if_neg (by omega), if_neg (by omega), if_neg (by omega), if_neg (by omega), if_neg (by omega), if_neg (by omega)]; exact y7 h
      · simp only [iv_wF, iv_wI_ne (show (106 : Nat) ≠ 105 by decide), iv_wI_ne (show (107 : Nat) ≠ 105 by decide)]; exact x5 a c ha hc
      · simp only [iv_wF, iv_wI_ne (show (108 : Nat) ≠ 105 by decide)]; exact x6 y hy
    refine PW.aload_n rfl rfl dX6_readPocket_48 ?_
    refine PW.gI hS.1 (by decide) rfl (hU.2.1) fX6_107 dX6_readPocket_49 ?_
    refine PW.iconst (v := nI 1) (by decide) dX6_readPocket_52 ?_
    refine PW.icmp_neN 76 (by decide) (by first | omega | (split <;> omega)) (by first | omega | (split <;> omega)) dX6_readPocket_53 (fun hc53 => by (first | (exfalso; omega) | cases hc53)) (fun hc53 => ?_)
    refine PW.aload_n rfl rfl dX6_readPocket_56 ?_
    refine PW.gI hS.1 (by decide) rfl (hU.2.2.1) fX6_104 dX6_readPocket_57 ?_
    refine PW.bipush (v := nI 9) (by decide) dX6_readPocket_60 ?_
    refine PW.icmp_eqN 78 (by decide) (by first | omega | (split <;> omega)) (by first | omega | (split <;> omega)) dX6_readPocket_62 (fun hc62 => ?_) (fun hc62 => ?_)
    · exact tailp
    · refine PW.aload_n rfl rfl dX6_readPocket_65 ?_
      refine PW.gI hS.1 (by decide) rfl (hU.2.2.1) fX6_104 dX6_readPocket_66 ?_
      refine PW.aload_n rfl rfl dX6_readPocket_69 ?_
      refine PW.gI hS.1 (by decide) rfl (hM2.1) fX6_117 dX6_readPocket_70 ?_
      refine PW.icmp_ltN 78 (by decide) (by first | omega | (split <;> omega)) (by first | omega | (split <;> omega)) dX6_readPocket_73 (fun hc73 => ?_) (fun hc73 => by (first | (exfalso; omega) | cases hc73))
      exact tailp
  · rw [if_neg hg] at k2
    have hrd := k2 rfl
    by_cases hu1 : u.1 = 256
    · have hu := hu6 hu1
      have hd : ¬ (u.2.1 < R 0 0 ∨ u.2.1 = 9) := fun z => hg ⟨hu1, decide_eq_true z⟩
      refine PW.aload_n rfl rfl dX6_readPocket_48 ?_
      refine PW.gI hS.1 (by decide) rfl (hU.2.1) fX6_107 dX6_readPocket_49 ?_
      refine PW.iconst (v := nI 1) (by decide) dX6_readPocket_52 ?_
      refine PW.icmp_neN 76 (by decide) (by first | omega | (split <;> omega)) (by first | omega | (split <;> omega)) dX6_readPocket_53 (fun hc53 => by (first | (exfalso; omega) | cases hc53)) (fun hc53 => ?_)
      refine PW.aload_n rfl rfl dX6_readPocket_56 ?_
      refine PW.gI hS.1 (by decide) rfl (hU.2.2.1) fX6_104 dX6_readPocket_57 ?_
      refine PW.bipush (v := nI 9) (by decide) dX6_readPocket_60 ?_
      refine PW.icmp_eqN 78 (by decide) (by first | omega | (split <;> omega)) (by first | omega | (split <;> omega)) dX6_readPocket_62 (fun hc62 => by (first | (exfalso; omega) | cases hc62)) (fun hc62 => ?_)
      refine PW.aload_n rfl rfl dX6_readPocket_65 ?_
      refine PW.gI hS.1 (by decide) rfl (hU.2.2.1) fX6_104 dX6_readPocket_66 ?_
      refine PW.aload_n rfl rfl dX6_readPocket_69 ?_
      refine PW.gI hS.1 (by decide) rfl (hM2.1) fX6_117 dX6_readPocket_70 ?_
      refine PW.icmp_ltN 78 (by decide) (by first | omega | (split <;> omega)) (by first | omega | (split <;> omega)) dX6_readPocket_73 (fun hc73 => by (first | (exfalso; omega) | cases hc73)) (fun hc73 => ?_)
      refine PW.iconst (v := nI 0) (by decide) dX6_readPocket_76 ?_
      refine PW.zret rfl (by first | exact bI_nar _ | rfl) (Nat.le_refl _) (Nat.le_refl _) dX6_readPocket_77 ?_
      exact RdQ.no hrd hS hR.mk hU.2.2.2
    · refine PW.aload_n rfl rfl dX6_readPocket_48 ?_
      refine PW.gI hS.1 (by decide) rfl (hU.2.1) fX6_107 dX6_readPocket_49 ?_
      refine PW.iconst (v := nI 1) (by decide) dX6_readPocket_52 ?_
      refine PW.icmp_neN 76 (by decide) (by first | omega | (split <;> omega)) (by first | omega | (split <;> omega)) dX6_readPocket_53 (fun hc53 => ?_) (fun hc53 => by (first | (exfalso; omega) | cases hc53))
      refine PW.iconst (v := nI 0) (by decide) dX6_readPocket_76 ?_
      refine PW.zret rfl (by first | exact bI_nar _ | rfl) (Nat.le_refl _) (Nat.le_refl _) dX6_readPocket_77 ?_
      exact RdQ.no hrd hS hR.mk hU.2.2.2
end MRE
