/-! ===== the class tells ===== -/
section XTELL
variable {b s : Nat} {sc : pw_E} {mem : pw_M} {R : DR} {e : Nat} {sd : Nat → Nat}
set_option maxHeartbeats 8000000 in
theorem x_tellPocket (hS : St b s sc mem) (he : e = 49 ∨ e = 72) (hX : XD mem e R) (hP : R 0 0 < 6) (hs : ∀ j, j < 4 → iv mem 12 j = nI (sd j)) : Ret 0 0 0 mX2_tellPocket [.ref e, .ref 12] mem (fun v m1 => v = none ∧ St b s sc m1 ∧ Ag (fun r => r < e ∨ e + 20 < r) mem m1 ∧ XD m1 e (tellK R sd)) := by
  refine Ret.of (by decide) (Nat.le_of_ble_eq_true rfl) fun l G => ?_
  show PW _ _ _ _ [(0, _), (1, _)] _ _ _
  refine PW.aload_n rfl rfl dX2_tellPocket_0 ?_
  refine PW.gR hS.1 (by have := he; omega) (skR3 he) fX2_9 dX2_tellPocket_1 ?_
  refine PW.aload_n rfl rfl dX2_tellPocket_4 ?_
  refine PW.gI hS.1 (by have := he; omega) (skR0 he) (hX.1) fX2_62 dX2_tellPocket_5 ?_
  refine PW.aload_n rfl rfl dX2_tellPocket_8 ?_
  refine PW.iconst (v := nI 0) (by decide) dX2_tellPocket_9 ?_
  refine PW.aI hS.1 (by decide) rfl (by exact rfl) ⟨by omega, by decide⟩ (hs 0 (by decide)) dX2_tellPocket_10 ?_
  refine PW.uI hS (by have := he; omega) (akR1 he) (by exact rfl) ⟨by omega, by decide⟩ dX2_tellPocket_11 (fun hS hw11 => ?_)
  refine PW.aload_n rfl rfl dX2_tellPocket_12 ?_
  refine PW.gR hS.1 (by have := he; omega) (skR4 he) fX2_15 dX2_tellPocket_13 ?_
  refine PW.aload_n rfl rfl dX2_tellPocket_16 ?_
  refine PW.gI hS.1 (by have := he; omega) (skR0 he) (fi_wI.trans hX.1) fX2_62 dX2_tellPocket_17 ?_
  refine PW.aload_n rfl rfl dX2_tellPocket_20 ?_
  refine PW.iconst (v := nI 1) (by decide) dX2_tellPocket_21 ?_
  refine PW.aI hS.1 (by decide) rfl (by exact rfl) ⟨by omega, by decide⟩ ((iv_wI_ne (by omega)).trans (hs 1 (by decide))) dX2_tellPocket_22 ?_
  refine PW.uI hS (by have := he; omega) (akR2 he) (by exact rfl) ⟨by omega, by decide⟩ dX2_tellPocket_23 (fun hS hw23 => ?_)
  refine PW.aload_n rfl rfl dX2_tellPocket_24 ?_
  refine PW.gR hS.1 (by have := he; omega) (skR5 he) fX2_18 dX2_tellPocket_25 ?_
  refine PW.aload_n rfl rfl dX2_tellPocket_28 ?_
  refine PW.gI hS.1 (by have := he; omega) (skR0 he) (fi_wI.trans (fi_wI.trans hX.1)) fX2_62 dX2_tellPocket_29 ?_
  refine PW.aload_n rfl rfl dX2_tellPocket_32 ?_
  refine PW.iconst (v := nI 2) (by decide) dX2_tellPocket_33 ?_
  refine PW.aI hS.1 (by decide) rfl (by exact rfl) ⟨by omega, by decide⟩ ((iv_wI_ne (by omega)).trans ((iv_wI_ne (by omega)).trans (hs 2 (by decide)))) dX2_tellPocket_34 ?_
  refine PW.uI hS (by have := he; omega) (akR3 he) (by exact rfl) ⟨by omega, by decide⟩ dX2_tellPocket_35 (fun hS hw35 => ?_)
  refine PW.aload_n rfl rfl dX2_tellPocket_36 ?_
  refine PW.gR hS.1 (by have := he; omega) (skR6 he) fX2_21 dX2_tellPocket_37 ?_
  refine PW.aload_n rfl rfl dX2_tellPocket_40 ?_
  refine PW.gI hS.1 (by have := he; omega) (skR0 he) (fi_wI.trans (fi_wI.trans (fi_wI.trans hX.1))) fX2_62 dX2_tellPocket_41 ?_
  refine PW.aload_n rfl rfl dX2_tellPocket_44 ?_
  refine PW.iconst (v := nI 3) (by decide) dX2_tellPocket_45 ?_
  refine PW.aI hS.1 (by decide) rfl (by exact rfl) ⟨by omega, by decide⟩ ((iv_wI_ne (by omega)).trans ((iv_wI_ne (by omega)).trans ((iv_wI_ne (by omega)).trans (hs 3 (by decide))))) dX2_tellPocket_46 ?_
  refine PW.uI hS (by have := he; omega) (akR4 he) (by exact rfl) ⟨by omega, by decide⟩ dX2_tellPocket_47 (fun hS hw47 => ?_)
  refine PW.aload_n rfl rfl dX2_tellPocket_48 ?_
  refine PW.dup rfl dX2_tellPocket_49 ?_
  refine PW.gI hS.1 (by have := he; omega) (skR0 he) (fi_wI.trans (fi_wI.trans (fi_wI.trans (fi_wI.trans hX.1)))) fX2_62 dX2_tellPocket_50 ?_
  refine PW.iconst (v := nI 1) (by decide) dX2_tellPocket_53 ?_
  refine PW.iaddN dX2_tellPocket_54 ?_
  refine PW.tI hS (by have := he; omega) (skR0 he) pX2_62 dX2_tellPocket_55 (fun hS hw55 => ?_)
  skip
  have hA : Ag (fun r => r ≠ e ∧ r ≠ e + 1 ∧ r ≠ e + 2 ∧ r ≠ e + 3 ∧ r ≠ e + 4) mem _ := ((((Ag.wI (r := e + 1) (j := R 0 0) (x := nI (sd 0)) (by omega)).tr (Ag.wI (r := e + 2) (j := R 0 0) (x := nI (sd 1)) (by omega))).tr (Ag.wI (r := e + 3) (j := R 0 0) (x := nI (sd 2)) (by omega))).tr (Ag.wI (r := e + 4) (j := R 0 0) (x := nI (sd 3)) (by omega))).tr (Ag.wF (r := e) (j := 0) (v := .int (nI (R 0 0 + 1))) (by omega))
  refine PW.vret rfl (Nat.le_refl _) (Nat.le_refl _) dX2_tellPocket_58 ?_
  refine ⟨rfl, hS, hA.mono (fun r h => by omega), ?_⟩
  obtain ⟨x1, x2, x3, x4, x5, x6, x7⟩ := hX
  refine ⟨hw55, ?_, ?_, fun k hk => ?_, fun k hk => ?_, fun a c ha hc => ?_, fun t ht => ?_⟩
  · rw [fi_wF_ne (Or.inr (by decide)), fi_wI, fi_wI, fi_wI, fi_wI]; exact x2
  · rw [fi_wF_ne (Or.inr (by decide)), fi_wI, fi_wI, fi_wI, fi_wI]; exact x3
  · have hk : k < R 0 0 + 1 := hk
    show _ = nI (if k = R 0 0 then sd 0 else R 3 k) ∧ _ = nI (if k = R 0 0 then sd 1 else R 4 k) ∧ _ = nI (if k = R 0 0 then sd 2 else R 5 k) ∧ _ = nI (if k = R 0 0 then sd 3 else R 6 k)
    rw [iv_wF, iv_wI_ne (by omega), iv_wI_ne (by omega), iv_wI_ne (by omega), hw11, iv_wF, iv_wI_ne (by omega), iv_wI_ne (by omega), hw23, iv_wI_ne (by omega), iv_wF, iv_wI_ne (by omega), hw35, iv_wI_ne (by omega), iv_wI_ne (by omega), iv_wF, hw47, iv_wI_ne (by omega), iv_wI_ne (by omega), iv_wI_ne (by omega)]
    by_cases q : k = R 0 0
    · simp only [if_pos q]; refine ⟨?_, ?_, ?_, ?_⟩ <;> first | rfl | trivial
    · simp only [if_neg q]; exact x4 k (by omega)
  · rw [hA.iv (by omega), hA.iv (by omega), hA.iv (by omega), hA.iv (by omega), hA.iv (by omega)]; exact x5 k hk
  · rw [hA.iv (by omega)]; exact x6 a c ha hc
  · rw [hA.iv (by omega), hA.iv (by omega), hA.iv (by omega), hA.iv (by omega)]; exact x7 t ht
set_option maxHeartbeats 8000000 in
theorem x_tellThing (hS : St b s sc mem) (he : e = 49 ∨ e = 72) (hX : XD mem e R) (hP : R 1 0 < 6) (hs : ∀ j, j < 4 → iv mem 12 j = nI (sd j)) : Ret 0 0 0 mX2_tellThing [.ref e, .ref 12] mem (fun v m1 => v = none ∧ St b s sc m1 ∧ Ag (fun r => r < e ∨ e + 20 < r) mem m1 ∧ XD m1 e (tellT R sd)) := by
  refine Ret.of (by decide) (Nat.le_of_ble_eq_true rfl) fun l G => ?_
  show PW _ _ _ _ [(0, _), (1, _)] _ _ _
  refine PW.aload_n rfl rfl dX2_tellThing_0 ?_
  refine PW.gR hS.1 (by have := he; omega) (skR13 he) fX2_44 dX2_tellThing_1 ?_
  refine PW.aload_n rfl rfl dX2_tellThing_4 ?_
  refine PW.gI hS.1 (by have := he; omega) (skR1 he) (hX.2.1) fX2_66 dX2_tellThing_5 ?_
  refine PW.aload_n rfl rfl dX2_tellThing_8 ?_
  refine PW.iconst (v := nI 0) (by decide) dX2_tellThing_9 ?_
  refine PW.aI hS.1 (by decide) rfl (by exact rfl) ⟨by omega, by decide⟩ (hs 0 (by decide)) dX2_tellThing_10 ?_
  refine PW.uI hS (by have := he; omega) (akR17 he) (by exact rfl) ⟨by omega, by decide⟩ dX2_tellThing_11 (fun hS hw11 => ?_)
  refine PW.aload_n rfl rfl dX2_tellThing_12 ?_
  refine PW.gR hS.1 (by have := he; omega) (skR14 he) fX2_47 dX2_tellThing_13 ?_
  refine PW.aload_n rfl rfl dX2_tellThing_16 ?_
  refine PW.gI hS.1 (by have := he; omega) (skR1 he) (fi_wI.trans hX.2.1) fX2_66 dX2_tellThing_17 ?_
  refine PW.aload_n rfl rfl dX2_tellThing_20 ?_
  refine PW.iconst (v := nI 1) (by decide) dX2_tellThing_21 ?_
  refine PW.aI hS.1 (by decide) rfl (by exact rfl) ⟨by omega, by decide⟩ ((iv_wI_ne (by omega)).trans (hs 1 (by decide))) dX2_tellThing_22 ?_
  refine PW.uI hS (by have := he; omega) (akR18 he) (by exact rfl) ⟨by omega, by decide⟩ dX2_tellThing_23 (fun hS hw23 => ?_)
  refine PW.aload_n rfl rfl dX2_tellThing_24 ?_
  refine PW.gR hS.1 (by have := he; omega) (skR15 he) fX2_50 dX2_tellThing_25 ?_
  refine PW.aload_n rfl rfl dX2_tellThing_28 ?_
  refine PW.gI hS.1 (by have := he; omega) (skR1 he) (fi_wI.trans (fi_wI.trans hX.2.1)) fX2_66 dX2_tellThing_29 ?_
  refine PW.aload_n rfl rfl dX2_tellThing_32 ?_
  refine PW.iconst (v := nI 2) (by decide) dX2_tellThing_33 ?_
  refine PW.aI hS.1 (by decide) rfl (by exact rfl) ⟨by omega, by decide⟩ ((iv_wI_ne (by omega)).trans ((iv_wI_ne (by omega)).trans (hs 2 (by decide)))) dX2_tellThing_34 ?_
  refine PW.uI hS (by have := he; omega) (akR19 he) (by exact rfl) ⟨by omega, by decide⟩ dX2_tellThing_35 (fun hS hw35 => ?_)
  refine PW.aload_n rfl rfl dX2_tellThing_36 ?_
  refine PW.gR hS.1 (by have := he; omega) (skR16 he) fX2_53 dX2_tellThing_37 ?_
  refine PW.aload_n rfl rfl dX2_tellThing_40 ?_
  refine PW.gI hS.1 (by have := he; omega) (skR1 he) (fi_wI.trans (fi_wI.trans (fi_wI.trans hX.2.1))) fX2_66 dX2_tellThing_41 ?_
  refine PW.aload_n rfl rfl dX2_tellThing_44 ?_
  refine PW.iconst (v := nI 3) (by decide) dX2_tellThing_45 ?_
  refine PW.aI hS.1 (by decide) rfl (by exact rfl) ⟨by omega, by decide⟩ ((iv_wI_ne (by omega)).trans ((iv_wI_ne (by omega)).trans ((iv_wI_ne (by omega)).trans (hs 3 (by decide))))) dX2_tellThing_46 ?_
  refine PW.uI hS (by have := he; omega) (akR20 he) (by exact rfl) ⟨by omega, by decide⟩ dX2_tellThing_47 (fun hS hw47 => ?_)
  refine PW.aload_n rfl rfl dX2_tellThing_48 ?_
  refine PW.dup rfl dX2_tellThing_49 ?_
  refine PW.gI hS.1 (by have := he; omega) (skR1 he) (fi_wI.trans (fi_wI.trans (fi_wI.trans (fi_wI.trans hX.2.1)))) fX2_66 dX2_tellThing_50 ?_
  refine PW.iconst (v := nI 1) (by decide) dX2_tellThing_53 ?_
  refine PW.iaddN dX2_tellThing_54 ?_
  refine PW.tI hS (by have := he; omega) (skR1 he) pX2_66 dX2_tellThing_55 (fun hS hw55 => ?_)
  skip
  have hA : Ag (fun r => r ≠ e ∧ r ≠ e + 17 ∧ r ≠ e + 18 ∧ r ≠ e + 19 ∧ r ≠ e + 20) mem _ := ((((Ag.wI (r := e + 17) (j := R 1 0) (x := nI (sd 0)) (by omega)).tr (Ag.wI (r := e + 18) (j := R 1 0) (x := nI (sd 1)) (by omega))).tr (Ag.wI (r := e + 19) (j := R 1 0) (x := nI (sd 2)) (by omega))).tr (Ag.wI (r := e + 20) (j := R 1 0) (x := nI (sd 3)) (by omega))).tr (Ag.wF (r := e) (j := 1) (v := .int (nI (R 1 0 + 1))) (by omega))
  refine PW.vret rfl (Nat.le_refl _) (Nat.le_refl _) dX2_tellThing_58 ?_
  refine ⟨rfl, hS, hA.mono (fun r h => by omega), ?_⟩
  obtain ⟨x1, x2, x3, x4, x5, x6, x7⟩ := hX
  refine ⟨?_, hw55, ?_, fun k hk => ?_, fun k hk => ?_, fun a c ha hc => ?_, fun k hk => ?_⟩
  · rw [fi_wF_ne (Or.inr (by decide)), fi_wI, fi_wI, fi_wI, fi_wI]; exact x1
  · rw [fi_wF_ne (Or.inr (by decide)), fi_wI, fi_wI, fi_wI, fi_wI]; exact x3
  · rw [hA.iv (by omega), hA.iv (by omega), hA.iv (by omega), hA.iv (by omega)]; exact x4 k hk
  · rw [hA.iv (by omega), hA.iv (by omega), hA.iv (by omega), hA.iv (by omega), hA.iv (by omega)]; exact x5 k hk
  · rw [hA.iv (by omega)]; exact x6 a c ha hc
  · have hk : k < R 1 0 + 1 := hk
    show _ = nI (if k = R 1 0 then sd 0 else R 13 k) ∧ _ = nI (if k = R 1 0 then sd 1 else R 14 k) ∧ _ = nI (if k = R 1 0 then sd 2 else R 15 k) ∧ _ = nI (if k = R 1 0 then sd 3 else R 16 k)
    rw [iv_wF, iv_wI_ne (by omega), iv_wI_ne (by omega), iv_wI_ne (by omega), hw11, iv_wF, iv_wI_ne (by omega), iv_wI_ne (by omega), hw23, iv_wI_ne (by omega), iv_wF, iv_wI_ne (by omega), hw35, iv_wI_ne (by omega), iv_wI_ne (by omega), iv_wF, hw47, iv_wI_ne (by omega), iv_wI_ne (by omega), iv_wI_ne (by omega)]
    by_cases q : k = R 1 0
    · simp only [if_pos q]; refine ⟨?_, ?_, ?_, ?_⟩ <;> first | rfl | trivial
    · simp only [if_neg q]; exact x7 k (by omega)
set_option maxHeartbeats 8000000 in
theorem x_tellLaw (hS : St b s sc mem) (he : e = 49 ∨ e = 72) (hX : XD mem e R) {h : Nat} (h0 : sd 0 < 6) : Ret 0 0 0 mX2_tellLaw [.ref e, .int (nI h), .int (nI (sd 0)), .int (nI (sd 1))] mem (fun v m1 => v = none ∧ St b s sc m1 ∧ Ag (fun r => r < e ∨ e + 20 < r) mem m1 ∧ XD m1 e (tellL h R sd)) := by
  refine Ret.of (by decide) (Nat.le_of_ble_eq_true rfl) fun l G => ?_
  show PW _ _ _ _ [(0, _), (1, _), (2, _), (3, _)] _ _ _
  refine PW.aload_n rfl rfl dX2_tellLaw_0 ?_
  refine PW.gR hS.1 (by have := he; omega) (skR7 he) fX2_24 dX2_tellLaw_1 ?_
  refine PW.iload_n rfl rfl dX2_tellLaw_4 ?_
  refine PW.iload_n rfl rfl dX2_tellLaw_5 ?_
  refine PW.uI hS (by have := he; omega) (akR5 he) (by exact rfl) ⟨by omega, by decide⟩ dX2_tellLaw_6 (fun hS hw6 => ?_)
  refine PW.aload_n rfl rfl dX2_tellLaw_7 ?_
  refine PW.gR hS.1 (by have := he; omega) (skR8 he) fX2_27 dX2_tellLaw_8 ?_
  refine PW.iload_n rfl rfl dX2_tellLaw_11 ?_
  refine PW.iload_n rfl rfl dX2_tellLaw_12 ?_
  refine PW.uI hS (by have := he; omega) (akR6 he) (by exact rfl) ⟨by omega, by decide⟩ dX2_tellLaw_13 (fun hS hw13 => ?_)
  skip
  have hA : Ag (fun r => r ≠ e + 5 ∧ r ≠ e + 6) mem _ := (Ag.wI (r := e + 5) (j := sd 0) (x := nI h) (by omega)).tr (Ag.wI (r := e + 6) (j := sd 0) (x := nI (sd 1)) (by omega))
  refine PW.vret rfl (Nat.le_refl _) (Nat.le_refl _) dX2_tellLaw_14 ?_
  refine ⟨rfl, hS, hA.mono (fun r h => by omega), ?_⟩
  obtain ⟨x1, x2, x3, x4, x5, x6, x7⟩ := hX
  refine ⟨?_, ?_, ?_, fun k hk => ?_, fun k hk => ?_, fun a c ha hc => ?_, fun k hk => ?_⟩
  · rw [fi_wI, fi_wI]; exact x1
  · rw [fi_wI, fi_wI]; exact x2
  · rw [fi_wI, fi_wI]; exact x3
  · rw [hA.iv (by omega), hA.iv (by omega), hA.iv (by omega), hA.iv (by omega)]; exact x4 k hk
  · rw [hA.iv (r := e + 7) (by omega), hA.iv (r := e + 8) (by omega), hA.iv (r := e + 9) (by omega), iv_wI_ne (by omega), hw6, hw13, iv_wI_ne (by omega)]
    show _ = nI (if k = sd 0 then h else R 7 k) ∧ ((if k = sd 0 then h else R 7 k) ≠ 0 → _ = nI (if k = sd 0 then sd 1 else R 8 k)) ∧ _
    by_cases q : k = sd 0
    · refine ⟨by rw [if_pos q, if_pos q], fun _ => by rw [if_pos q, if_pos q], (x5 k hk).2.2⟩
    · simp only [if_neg q]; exact x5 k hk
  · rw [hA.iv (by omega)]; exact x6 a c ha hc
  · rw [hA.iv (by omega), hA.iv (by omega), hA.iv (by omega), hA.iv (by omega)]; exact x7 k hk
set_option maxHeartbeats 8000000 in
theorem x_tellSeam (hS : St b s sc mem) (he : e = 49 ∨ e = 72) (hX : XD mem e R) (h0 : sd 0 < 6) (h1 : sd 1 < 6) (hne : sd 1 ≠ sd 0) : Ret 0 0 0 mX2_tellSeam [.ref e, .int (nI (sd 0)), .int (nI (sd 1))] mem (fun v m1 => v = none ∧ St b s sc m1 ∧ Ag (fun r => r < e ∨ e + 20 < r) mem m1 ∧ XD m1 e (tellS R sd)) := by
  refine Ret.of (by decide) (Nat.le_of_ble_eq_true rfl) fun l G => ?_
  show PW _ _ _ _ [(0, _), (1, _), (2, _)] _ _ _
  refine PW.aload_n rfl rfl dX2_tellSeam_0 ?_
  refine PW.gR hS.1 (by have := he; omega) (skR9 he) fX2_30 dX2_tellSeam_1 ?_
  refine PW.iload_n rfl rfl dX2_tellSeam_4 ?_
  refine PW.dup2 rfl rfl dX2_tellSeam_5 ?_
  refine PW.aI hS.1 (by have := he; omega) (akR7 he) (by exact rfl) ⟨by omega, by decide⟩ ((hX.2.2.2.2.1 (sd 0) h0).2.2.1) dX2_tellSeam_6 ?_
  refine PW.iconst (v := nI 1) (by decide) dX2_tellSeam_7 ?_
  refine PW.iload_n rfl rfl dX2_tellSeam_8 ?_
  refine PW.ishl1 (by omega) dX2_tellSeam_9 ?_
  refine PW.iorN dX2_tellSeam_10 ?_
  refine PW.uI hS (by have := he; omega) (akR7 he) (by exact rfl) ⟨by omega, by decide⟩ dX2_tellSeam_11 (fun hS hw11 => ?_)
  refine PW.aload_n rfl rfl dX2_tellSeam_12 ?_
  refine PW.gR hS.1 (by have := he; omega) (skR9 he) fX2_30 dX2_tellSeam_13 ?_
  refine PW.iload_n rfl rfl dX2_tellSeam_16 ?_
  refine PW.dup2 rfl rfl dX2_tellSeam_17 ?_
  refine PW.aI hS.1 (by have := he; omega) (akR7 he) (by exact rfl) ⟨by omega, by decide⟩ ((hw11 _).trans ((if_neg hne).trans (hX.2.2.2.2.1 (sd 1) h1).2.2.1)) dX2_tellSeam_18 ?_
  refine PW.iconst (v := nI 1) (by decide) dX2_tellSeam_19 ?_
  refine PW.iload_n rfl rfl dX2_tellSeam_20 ?_
  refine PW.ishl1 (by omega) dX2_tellSeam_21 ?_
  refine PW.iorN dX2_tellSeam_22 ?_
  refine PW.uI hS (by have := he; omega) (akR7 he) (by exact rfl) ⟨by omega, by decide⟩ dX2_tellSeam_23 (fun hS hw23 => ?_)
  skip
  have hA : Ag (fun r => r ≠ e + 7) mem _ := (Ag.wI (r := e + 7) (j := sd 0) (x := nI (R 9 (sd 0) ||| 2 ^ sd 1)) (by omega)).tr (Ag.wI (r := e + 7) (j := sd 1) (x := nI (R 9 (sd 1) ||| 2 ^ sd 0)) (by omega))
  refine PW.vret rfl (Nat.le_refl _) (Nat.le_refl _) dX2_tellSeam_24 ?_
  refine ⟨rfl, hS, hA.mono (fun r h => by omega), ?_⟩
  obtain ⟨x1, x2, x3, x4, x5, x6, x7⟩ := hX
  refine ⟨?_, ?_, ?_, fun k hk => ?_, fun k hk => ?_, fun a c ha hc => ?_, fun k hk => ?_⟩
  · rw [fi_wI, fi_wI]; exact x1
  · rw [fi_wI, fi_wI]; exact x2
  · rw [fi_wI, fi_wI]; exact x3
  · rw [hA.iv (by omega), hA.iv (by omega), hA.iv (by omega), hA.iv (by omega)]; exact x4 k hk
  · rw [hA.iv (r := e + 5) (by omega), hA.iv (r := e + 6) (by omega), hA.iv (r := e + 8) (by omega), hA.iv (r := e + 9) (by omega), hw23, hw11]
    refine ⟨(x5 k hk).1, (x5 k hk).2.1, ?_, (x5 k hk).2.2.2⟩
    show _ = nI (if k = sd 1 then R 9 k ||| 2 ^ sd 0 else if k = sd 0 then R 9 k ||| 2 ^ sd 1 else R 9 k)
    by_cases q : k = sd 1
    · rw [if_pos q, if_pos q, q]
    · rw [if_neg q, if_neg q]
      by_cases q2 : k = sd 0
      · rw [if_pos q2, if_pos q2, q2]
      · rw [if_neg q2, if_neg q2]; exact (x5 k hk).2.2.1
  · rw [hA.iv (by omega)]; exact x6 a c ha hc
  · rw [hA.iv (by omega), hA.iv (by omega), hA.iv (by omega), hA.iv (by omega)]; exact x7 k hk
set_option maxHeartbeats 8000000 in
theorem x_tellHole (hS : St b s sc mem) (he : e = 49 ∨ e = 72) (hX : XD mem e R) (h0 : sd 0 < 6) (h1 : sd 1 < 6) : Ret 0 0 0 mX2_tellHole [.ref e, .int (nI (sd 0)), .int (nI (sd 1)), .int (nI (sd 2))] mem (fun v m1 => v = none ∧ St b s sc m1 ∧ Ag (fun r => r < e ∨ e + 20 < r) mem m1 ∧ XD m1 e (tellH R sd)) := by
  refine Ret.of (by decide) (Nat.le_of_ble_eq_true rfl) fun l G => ?_
  show PW _ _ _ _ [(0, _), (1, _), (2, _), (3, _)] _ _ _
  refine PW.aload_n rfl rfl dX2_tellHole_0 ?_
  refine PW.gR hS.1 (by have := he; omega) (skR10 he) fX2_33 dX2_tellHole_1 ?_
  refine PW.iload_n rfl rfl dX2_tellHole_4 ?_
  refine PW.iload_n rfl rfl dX2_tellHole_5 ?_
  refine PW.uI hS (by have := he; omega) (akR8 he) (by exact rfl) ⟨by omega, by decide⟩ dX2_tellHole_6 (fun hS hw6 => ?_)
  refine PW.aload_n rfl rfl dX2_tellHole_7 ?_
  refine PW.gR hS.1 (by have := he; omega) (skR11 he) fX2_36 dX2_tellHole_8 ?_
  refine PW.iload_n rfl rfl dX2_tellHole_11 ?_
  refine PW.iload_n rfl rfl dX2_tellHole_12 ?_
  refine PW.uI hS (by have := he; omega) (akR9 he) (by exact rfl) ⟨by omega, by decide⟩ dX2_tellHole_13 (fun hS hw13 => ?_)
  skip
  have hA : Ag (fun r => r ≠ e + 8 ∧ r ≠ e + 9) mem _ := (Ag.wI (r := e + 8) (j := sd 0) (x := nI (sd 1)) (by omega)).tr (Ag.wI (r := e + 9) (j := sd 0) (x := nI (sd 2)) (by omega))
  refine PW.vret rfl (Nat.le_refl _) (Nat.le_refl _) dX2_tellHole_14 ?_
  refine ⟨rfl, hS, hA.mono (fun r h => by omega), ?_⟩
  obtain ⟨x1, x2, x3, x4, x5, x6, x7⟩ := hX
  refine ⟨?_, ?_, ?_, fun k hk => ?_, fun k hk => ?_, fun a c ha hc => ?_, fun k hk => ?_⟩
  · rw [fi_wI, fi_wI]; exact x1
  · rw [fi_wI, fi_wI]; exact x2
  · rw [fi_wI, fi_wI]; exact x3
  · rw [hA.iv (by omega), hA.iv (by omega), hA.iv (by omega), hA.iv (by omega)]; exact x4 k hk
  · rw [hA.iv (r := e + 5) (by omega), hA.iv (r := e + 6) (by omega), hA.iv (r := e + 7) (by omega), iv_wI_ne (by omega), hw6, hw13, iv_wI_ne (by omega)]
    refine ⟨(x5 k hk).1, (x5 k hk).2.1, (x5 k hk).2.2.1, ?_⟩
    show _ = hI (if k = sd 0 then sd 1 else R 10 k) ∧ ((if k = sd 0 then sd 1 else R 10 k) ≠ 9 → _ = nI (if k = sd 0 then sd 2 else R 11 k))
    by_cases q : k = sd 0
    · exact ⟨by rw [if_pos q, if_pos q, hI_lt h1], fun _ => by rw [if_pos q, if_pos q]⟩
    · simp only [if_neg q]; exact (x5 k hk).2.2.2
  · rw [hA.iv (by omega)]; exact x6 a c ha hc
  · rw [hA.iv (by omega), hA.iv (by omega), hA.iv (by omega), hA.iv (by omega)]; exact x7 k hk
set_option maxHeartbeats 8000000 in
theorem x_tellTreaty (hS : St b s sc mem) (he : e = 49 ∨ e = 72) (hX : XD mem e R) (h0 : sd 0 < 6) (h1 : sd 1 < 6) (hne : sd 1 ≠ sd 0) (h2 : sd 2 < 6) : Ret 0 0 0 mX2_tellTreaty [.ref e, .int (nI (sd 0)), .int (nI (sd 1)), .int (nI (sd 2))] mem (fun v m1 => v = none ∧ St b s sc m1 ∧ Ag (fun r => r < e ∨ e + 20 < r) mem m1 ∧ XD m1 e (tellY R sd)) := by
  refine Ret.of (by decide) (Nat.le_of_ble_eq_true rfl) fun l G => ?_
  show PW _ _ _ _ [(0, _), (1, _), (2, _), (3, _)] _ _ _
  refine PW.aload_n rfl rfl dX2_tellTreaty_0 ?_
  refine PW.gR hS.1 (by have := he; omega) (skR12 he) fX2_41 dX2_tellTreaty_1 ?_
  refine PW.iload_n rfl rfl dX2_tellTreaty_4 ?_
  refine PW.aQ hS.1 (by have := he; omega) (akR10 he) (fun _ => rfl) rfl (by exact rfl) ⟨by omega, by decide⟩ (akRq (by omega)) dX2_tellTreaty_5 ?_
  refine PW.iload_n rfl rfl dX2_tellTreaty_6 ?_
  refine PW.dup2 rfl rfl dX2_tellTreaty_7 ?_
  refine PW.aI hS.1 (by have := he; omega) (akRt he (by omega)) (by exact rfl) ⟨by omega, by decide⟩ (hX.2.2.2.2.2.1 (sd 0) (sd 1) h0 h1) dX2_tellTreaty_8 ?_
  refine PW.iconst (v := nI 1) (by decide) dX2_tellTreaty_9 ?_
  refine PW.iload_n rfl rfl dX2_tellTreaty_10 ?_
  refine PW.ishl1 (by omega) dX2_tellTreaty_11 ?_
  refine PW.iorN dX2_tellTreaty_12 ?_
  refine PW.uI hS (by have := he; omega) (akRt he (by omega)) (by exact rfl) ⟨by omega, by decide⟩ dX2_tellTreaty_13 (fun hS hw13 => ?_)
  refine PW.aload_n rfl rfl dX2_tellTreaty_14 ?_
  refine PW.gR hS.1 (by have := he; omega) (skR12 he) fX2_41 dX2_tellTreaty_15 ?_
  refine PW.iload_n rfl rfl dX2_tellTreaty_18 ?_
  refine PW.aQ hS.1 (by have := he; omega) (akR10 he) (fun _ => rfl) rfl (by exact rfl) ⟨by omega, by decide⟩ (akRq (by omega)) dX2_tellTreaty_19 ?_
  refine PW.iload_n rfl rfl dX2_tellTreaty_20 ?_
  refine PW.dup2 rfl rfl dX2_tellTreaty_21 ?_
  refine PW.aI hS.1 (by have := he; omega) (akRt he (by omega)) (by exact rfl) ⟨by omega, by decide⟩ ((iv_wI_ne (by omega)).trans (hX.2.2.2.2.2.1 (sd 1) (sd 0) h1 h0)) dX2_tellTreaty_22 ?_
  refine PW.iconst (v := nI 1) (by decide) dX2_tellTreaty_23 ?_
  refine PW.iload_n rfl rfl dX2_tellTreaty_24 ?_
  refine PW.ishl1 (by omega) dX2_tellTreaty_25 ?_
  refine PW.iorN dX2_tellTreaty_26 ?_
  refine PW.uI hS (by have := he; omega) (akRt he (by omega)) (by exact rfl) ⟨by omega, by decide⟩ dX2_tellTreaty_27 (fun hS hw27 => ?_)
  refine PW.aload_n rfl rfl dX2_tellTreaty_28 ?_
  refine PW.dup rfl dX2_tellTreaty_29 ?_
  refine PW.gI hS.1 (by have := he; omega) (skR2 he) (fi_wI.trans (fi_wI.trans hX.2.2.1)) fX2_69 dX2_tellTreaty_30 ?_
  refine PW.iconst (v := nI 1) (by decide) dX2_tellTreaty_33 ?_
  refine PW.iaddN dX2_tellTreaty_34 ?_
  refine PW.tI hS (by have := he; omega) (skR2 he) pX2_69 dX2_tellTreaty_35 (fun hS hw35 => ?_)
  skip
  have hA : Ag (fun r => r ≠ e ∧ r ≠ e + 11 + sd 0 ∧ r ≠ e + 11 + sd 1) mem _ := ((Ag.wI (r := e + 11 + sd 0) (j := sd 1) (x := nI (R 12 (6 * sd 0 + sd 1) ||| 2 ^ sd 2)) (by omega)).tr (Ag.wI (r := e + 11 + sd 1) (j := sd 0) (x := nI (R 12 (6 * sd 1 + sd 0) ||| 2 ^ sd 2)) (by omega))).tr (Ag.wF (r := e) (j := 2) (v := .int (nI (R 2 0 + 1))) (by omega))
  refine PW.vret rfl (Nat.le_refl _) (Nat.le_refl _) dX2_tellTreaty_38 ?_
  refine ⟨rfl, hS, hA.mono (fun r h => by omega), ?_⟩
  obtain ⟨x1, x2, x3, x4, x5, x6, x7⟩ := hX
  refine ⟨?_, ?_, hw35, fun k hk => ?_, fun k hk => ?_, fun a c ha hc => ?_, fun k hk => ?_⟩
  · rw [fi_wF_ne (Or.inr (by decide)), fi_wI, fi_wI]; exact x1
  · rw [fi_wF_ne (Or.inr (by decide)), fi_wI, fi_wI]; exact x2
  · rw [hA.iv (by omega), hA.iv (by omega), hA.iv (by omega), hA.iv (by omega)]; exact x4 k hk
  · rw [hA.iv (by omega), hA.iv (by omega), hA.iv (by omega), hA.iv (by omega), hA.iv (by omega)]; exact x5 k hk
  · rw [iv_wF]
    show _ = nI (if 6 * a + c = 6 * sd 1 + sd 0 then R 12 (6 * a + c) ||| 2 ^ sd 2 else if 6 * a + c = 6 * sd 0 + sd 1 then R 12 (6 * a + c) ||| 2 ^ sd 2 else R 12 (6 * a + c))
    have x6 := x6 a c ha hc
    by_cases q1 : a = sd 1
    · rw [q1, hw27]
      by_cases q2 : c = sd 0
      · rw [if_pos q2, if_pos (by omega), q2]
      · rw [if_neg q2, if_neg (by omega), if_neg (by omega), iv_wI_ne (by omega), ← q1]; exact x6
    · rw [iv_wI_ne (by omega), if_neg (show ¬ 6 * a + c = 6 * sd 1 + sd 0 by omega)]
      by_cases q3 : a = sd 0
      · rw [q3, hw13]
        by_cases q2 : c = sd 1
        · rw [if_pos q2, if_pos (by omega), q2]
        · rw [if_neg q2, if_neg (by omega), ← q3]; exact x6
      · rw [iv_wI_ne (by omega), if_neg (by omega)]; exact x6
  · rw [hA.iv (by omega), hA.iv (by omega), hA.iv (by omega), hA.iv (by omega)]; exact x7 k hk
end XTELL
