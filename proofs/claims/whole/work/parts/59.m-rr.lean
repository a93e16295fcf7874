/-! ===== the model reads a text ===== -/
theorem itm_rdi {f : Nat → Nat} {n : Nat} {t : Nat × Nat × Nat × Nat} {R : DR} : itm f n t R = if (rdi f n t R).1 = true then (if (tk f n (rdi f n t R).2.1).1 = 59 then (true, (tk f n (rdi f n t R).2.1).2.2.2, (rdi f n t R).2.2) else (false, (tk f n (rdi f n t R).2.1).2.2.1, R)) else (false, (rdi f n t R).2.1, R) := by
  unfold itm rdi
  by_cases h1 : frm t.1 = [] ∨ rom t.1 R = false
  · rw [if_pos h1, if_pos h1, if_neg (show ¬ false = true by decide)]
  · rw [if_neg h1, if_neg h1]
    by_cases h2 : (arg f n (R 0 0) (frm t.1) 0 (fun _ => 0) t.2.2.2).1 = true
    · rw [if_pos h2, if_pos h2, if_pos rfl]
    · rw [if_neg h2, if_neg h2, if_neg (show ¬ false = true by decide)]
def Mr (mem m : pw_M) : Prop := Ag (fun r => r ≠ 95 ∧ (r < 105 ∨ 109 < r)) mem m ∧ ∀ j, j < 15 ∨ 27 < j → fv m 95 j = fv mem 95 j
theorem Mr.rf {m : pw_M} : Mr m m := ⟨Ag.rf, fun _ _ => rfl⟩
theorem Mr.tr {m m1 m2 : pw_M} (h1 : Mr m m1) (h2 : Mr m1 m2) : Mr m m2 := ⟨h1.1.tr h2.1, fun j hj => (h2.2 j hj).trans (h1.2 j hj)⟩
theorem Mk.mr {m m1 : pw_M} (h : Mk m m1) : Mr m m1 := ⟨h.1, fun j hj => h.2 j (by omega)⟩
theorem Mr.wI {m m1 : pw_M} {r j : Nat} {x : Int32} (h : Mr m m1) (hr : 105 ≤ r ∧ r ≤ 109) : Mr m (wI m1 r j x) := ⟨h.1.tr (Ag.wI (fun q => by have := q.2; omega)), fun i hi => fv_wI.trans (h.2 i hi)⟩
theorem Mr.wF {m m1 : pw_M} {j : Nat} {v : Value} (h : Mr m m1) (hj : 15 ≤ j ∧ j ≤ 27) : Mr m (wF m1 95 j v) := ⟨h.1.tr (Ag.wF (fun q => q.1 rfl)), fun i hi => (fv_wF_ne (Or.inr (by omega))).trans (h.2 i hi)⟩
theorem TM.mr {mem m : pw_M} {L : Nat} {f : Nat → Nat} (h : TM mem L f) (hR : Mr mem m) : TM m L f := h.ag2 (fi_fv (hR.2 1 (by omega))) (fun q => hR.1.iv ⟨by decide, by omega⟩ q)
def RRQ (b s : Nat) (sc : pw_E) (mem : pw_M) (f : Nat → Nat) (n : Nat) (v : Option Value) (m1 : pw_M) : Prop := v = some (.int (bI (rlm f n).1)) ∧ St b s sc m1 ∧ Mr mem m1 ∧ ((rlm f n).1 = true → fi m1 95 27 = nI (rlm f n).2.1 ∧ RM m1 (rlm f n).2.2 ∧ Inv (rlm f n).2.2) ∧ ((rlm f n).1 = false → fi m1 95 18 = nI (rlm f n).2.1)
theorem tkM_2 {k : Nat} : tkM k = 2 ↔ k = 257 := by
  unfold tkM
  by_cases h1 : k = 257
  · rw [if_pos h1]; omega
  · rw [if_neg h1]
    by_cases h2 : k = 256
    · rw [if_pos h2]; omega
    · rw [if_neg h2]; omega
theorem vaM_cases {t : Nat × Nat × Nat × Nat} (h : t.2.1 ≤ 99) : vaM t < 256 ∧ (t.1 < 256 → vaM t = t.1 ∧ tkM t.1 = 0) ∧ (¬ t.1 < 256 → t.1 ≠ 256 → vaM t = 0) := by
  unfold vaM
  by_cases h1 : t.1 = 256
  · rw [if_pos h1]; exact ⟨by omega, fun z => by omega, fun _ z => absurd h1 z⟩
  · rw [if_neg h1]
    by_cases h2 : t.1 < 256
    · rw [if_pos h2]
      refine ⟨h2, fun _ => ⟨rfl, ?_⟩, fun z => absurd h2 z⟩
      unfold tkM
      rw [if_neg (by omega), if_neg (by omega)]
    · rw [if_neg h2]; exact ⟨by decide, fun z => absurd z h2, fun _ _ => rfl⟩
theorem rdi_q {f : Nat → Nat} {n : Nat} {t : Nat × Nat × Nat × Nat} {R : DR} (hn : n ≤ 200) (hf : ∀ i, i < n → f i < 256) (hq : t.2.2.2 ≤ n) (h : (rdi f n t R).1 = true) : (rdi f n t R).2.1 ≤ n := by
  have ha := arg_q (P := R 0 0) hn hf (frm t.1) 0 (fun _ => 0) t.2.2.2 hq
  unfold rdi at h ⊢
  split at h
  · cases h
  · next h1 =>
    rw [if_neg h1]
    split at h
    · next h2 => rw [if_pos h2]; exact ha.2
    · cases h
section MRR
variable {b s : Nat} {sc : pw_E} {mem : pw_M} {R : DR} {n : Nat} {f : Nat → Nat}
set_option maxHeartbeats 16000000 in
theorem m_readRealm (hS : St b s sc mem) (hX : TM mem n f) (hn : n ≤ 200) (hf : ∀ i, i < n → f i < 256) : Ret 5 0 0 mX6_readRealm [.ref 95] mem (RRQ b s sc mem f n) := by
  refine Ret.of (by decide) (Nat.le_of_ble_eq_true rfl) fun l G => ?_
  show PW _ _ _ _ [(0, _)] _ _ _
  refine PW.aload_n rfl rfl dX6_readRealm_0 ?_
  refine PW.iconst (v := nI 0) (by decide) dX6_readRealm_1 ?_
  refine PW.tI hS (by decide) rfl pX6_94 dX6_readRealm_2 (fun hS hw2 => ?_)
  refine PW.aload_n rfl rfl dX6_readRealm_5 ?_
  refine PW.iconst (v := nI 0) (by decide) dX6_readRealm_6 ?_
  refine PW.tI hS (by decide) rfl pX6_134 dX6_readRealm_7 (fun hS hw7 => ?_)
  refine PW.aload_n rfl rfl dX6_readRealm_10 ?_
  refine PW.iconst (v := nI 0) (by decide) dX6_readRealm_11 ?_
  refine PW.tI hS (by decide) rfl pX6_117 dX6_readRealm_12 (fun hS hw12 => ?_)
  refine PW.aload_n rfl rfl dX6_readRealm_15 ?_
  refine PW.iconst (v := nI 0) (by decide) dX6_readRealm_16 ?_
  refine PW.tI hS (by decide) rfl pX6_131 dX6_readRealm_17 (fun hS hw17 => ?_)
  refine PW.aload_n rfl rfl dX6_readRealm_20 ?_
  refine PW.iconst (v := nI 0) (by decide) dX6_readRealm_21 ?_
  refine PW.tI hS (by decide) rfl pX6_124 dX6_readRealm_22 (fun hS hw22 => ?_)
  refine PW.iconst (v := nI 0) (by decide) dX6_readRealm_25 ?_
  refine PW.istore_n rfl (by decide) dX6_readRealm_26 (?_ : PW _ _ _ _ [(0, _), (1, _)] _ _ _)
  skip
  have hK0 := (((((Mr.rf (m := mem)).wF (j := 15) (v := .int (nI 0)) (by decide)).wF (j := 27) (v := .int (nI 0)) (by decide)).wF (j := 20) (v := .int (nI 0)) (by decide)).wF (j := 23) (v := .int (nI 0)) (by decide)).wF (j := 25) (v := .int (nI 0)) (by decide)
  have z23 := (fi_wF_ne (mem := wF (wF (wF (wF mem 95 15 (.int (nI 0))) 95 27 (.int (nI 0))) 95 20 (.int (nI 0))) 95 23 (.int (nI 0))) (r := 95) (j := 25) (v := .int (nI 0)) (Or.inr (show 23 ≠ 25 by decide))).trans hw17
  have z20 := (fi_wF_ne (mem := wF (wF (wF (wF mem 95 15 (.int (nI 0))) 95 27 (.int (nI 0))) 95 20 (.int (nI 0))) 95 23 (.int (nI 0))) (r := 95) (j := 25) (v := .int (nI 0)) (Or.inr (show 20 ≠ 25 by decide))).trans ((fi_wF_ne (Or.inr (by decide))).trans hw12)
  have z27 := (fi_wF_ne (mem := wF (wF (wF (wF mem 95 15 (.int (nI 0))) 95 27 (.int (nI 0))) 95 20 (.int (nI 0))) 95 23 (.int (nI 0))) (r := 95) (j := 25) (v := .int (nI 0)) (Or.inr (show 27 ≠ 25 by decide))).trans ((fi_wF_ne (Or.inr (by decide))).trans ((fi_wF_ne (Or.inr (by decide))).trans hw7))
  have z15 := (fi_wF_ne (mem := wF (wF (wF (wF mem 95 15 (.int (nI 0))) 95 27 (.int (nI 0))) 95 20 (.int (nI 0))) 95 23 (.int (nI 0))) (r := 95) (j := 25) (v := .int (nI 0)) (Or.inr (show 15 ≠ 25 by decide))).trans ((fi_wF_ne (Or.inr (by decide))).trans ((fi_wF_ne (Or.inr (by decide))).trans ((fi_wF_ne (Or.inr (by decide))).trans hw2)))
  refine PW.loop (I := fun j m => St b s sc m ∧ Mr mem m ∧ fi m 95 15 = nI 0 ∧ fi m 95 27 = nI 0 ∧ fi m 95 20 = nI 0 ∧ fi m 95 23 = nI 0 ∧ fi m 95 25 = nI 0 ∧ ∀ q, q < j → iv m 106 q = nI 0 ∧ iv m 107 q = nI 0) (fun j _ => [(0, .ref 95), (1, .int (nI j))]) (fun _ m => m) 36 (fun j m hj hJ ih => ?_) (fun m hJ => ?_) _ ⟨hS, hK0, z15, z27, z20, z23, hw22, fun q hq => absurd hq (Nat.not_lt_zero _)⟩
  · obtain ⟨hS, hK, q1, q2, q3, q4, q5, hv⟩ := hJ
    refine PW.iload_n rfl rfl dX6_readRealm_27 ?_
    refine PW.bipush (v := nI 36) (by decide) dX6_readRealm_28 ?_
    refine PW.icmp_geN 53 (by decide) (by first | omega | (split <;> omega)) (by first | omega | (split <;> omega)) dX6_readRealm_30 (fun hc30 => by exfalso; omega) (fun hc30 => ?_)
    refine PW.aload_n rfl rfl dX6_readRealm_33 ?_
    refine PW.gR hS.1 (by decide) rfl fX6_41 dX6_readRealm_34 ?_
    refine PW.iload_n rfl rfl dX6_readRealm_37 ?_
    refine PW.iconst (v := nI 0) (by decide) dX6_readRealm_38 ?_
    refine PW.uZ hS (by decide) rfl (by exact rfl) ⟨by omega, by decide⟩ (by first | exact bI_vp _ | rfl) dX6_readRealm_39 (fun hS hw39 => ?_)
    refine PW.aload_n rfl rfl dX6_readRealm_40 ?_
    refine PW.gR hS.1 (by decide) rfl fX6_44 dX6_readRealm_41 ?_
    refine PW.iload_n rfl rfl dX6_readRealm_44 ?_
    refine PW.iconst (v := nI 0) (by decide) dX6_readRealm_45 ?_
    refine PW.uI hS (by decide) rfl (by exact rfl) ⟨by omega, by decide⟩ dX6_readRealm_46 (fun hS hw46 => ?_)
    refine PW.iincN rfl (by decide) dX6_readRealm_47 (?_ : PW _ _ _ _ [(0, _), (1, _)] _ _ _)
    refine PW.goto 27 (by decide) dX6_readRealm_50 ?_
    refine ih _ ⟨hS, (hK.wI (by decide)).wI (by decide), fi_wI.trans (fi_wI.trans q1), fi_wI.trans (fi_wI.trans q2), fi_wI.trans (fi_wI.trans q3), fi_wI.trans (fi_wI.trans q4), fi_wI.trans (fi_wI.trans q5), fun q hq => ⟨?_, ?_⟩⟩
    · rw [iv_wI_ne (by decide), hw39]
      by_cases z : q = j
      · rw [if_pos z]
      · rw [if_neg z]; exact (hv q (by omega)).1
    · rw [hw46, iv_wI_ne (by decide)]
      by_cases z : q = j
      · rw [if_pos z]
      · rw [if_neg z]; exact (hv q (by omega)).2
  obtain ⟨hS, hK, q1, q2, q3, q4, q5, hv⟩ := hJ
  have hM : RM m R0 := ⟨q3, q5, q4, fun k hk => absurd hk (Nat.not_lt_zero _), fun a c ha hc => ⟨(hv _ (by omega)).1.trans (by show nI 0 = bI (Nat.testBit 0 c); rw [Nat.zero_testBit]; rfl), (hv _ (by omega)).2⟩, fun t ht => absurd ht (Nat.not_lt_zero _)⟩
  refine PW.iload_n rfl rfl dX6_readRealm_27 ?_
  refine PW.bipush (v := nI 36) (by decide) dX6_readRealm_28 ?_
  refine PW.icmp_geN 53 (by decide) (by first | omega | (split <;> omega)) (by first | omega | (split <;> omega)) dX6_readRealm_30 (fun hc30 => ?_) (fun hc30 => by exfalso; omega)
  refine PW.aload_n rfl rfl dX6_readRealm_53 ?_
  refine PW.dV (ci := 6) (j := 0) _ hS.1 (by decide) rfl kX6_114 (m_nextToken hS (hX.mr hK) hn hf (q := 0) (Nat.zero_le _) q1) rfl rfl (Nat.le_of_ble_eq_true rfl) rfl ⟨by decide, by decide⟩ ⟨Nat.zero_le _, Nat.zero_le _⟩ dX6_readRealm_54 (fun v m1 q => ?_)
  obtain ⟨rfl, hS, hR1, ht⟩ := q
  skip
  have hks := tk_spec hn hf (Nat.zero_le n)
  refine PW.drop [(0, .ref 95)] (fun r h => List.mem_of_mem_take (i := 1) h) ?_
  refine PW.loop (I := fun i m => ∃ (t : Nat × Nat × Nat × Nat) (R : DR), St b s sc m ∧ Mr mem m ∧ MT m t ∧ t.2.2.2 ≤ n ∧ t.2.2.1 ≤ n ∧ t.1 ≤ 258 ∧ t.2.1 ≤ 99 ∧ (t.1 ≠ 257 → i < t.2.2.2) ∧ RM m R ∧ Inv R ∧ fi m 95 27 = nI i ∧ rdl f n (201 - i) t R i = rlm f n) (fun i _ => [(0, .ref 95)]) (fun _ m => m) 200 (fun i m hi hJ ih => ?_) (fun m hJ => ?_) _ ⟨tk f n 0, R0, hS, hK.tr hR1.mk.mr, ht, hks.2.2.2.2.2.1, hks.2.2.2.1, hks.1, hks.2.1, hks.2.2.2.2.2.2.1, hM.rn hR1.rn, Inv_R0, (fi_fv (hR1.2 27 (by omega))).trans q2, rfl⟩
  · obtain ⟨t, R, hS, hK, ht, hq, hbg, hk, hv9, hlt, hM, hV, h27, hrd⟩ := hJ
    rw [show 201 - i = (200 - i) + 1 by omega, rdl] at hrd
    have hX1 := hX.mr hK
    have hkM := tkM_le (k := t.1)
    have hk2 := tkM_2 (k := t.1)
    by_cases hk7 : t.1 = 257
    · rw [if_pos hk7] at hrd
      refine PW.aload_n rfl rfl dX6_readRealm_57 ?_
      refine PW.gI hS.1 (by decide) rfl (ht.2.1) fX6_107 dX6_readRealm_58 ?_
      refine PW.iconst (v := nI 2) (by decide) dX6_readRealm_61 ?_
      refine PW.icmp_eqN 225 (by decide) (by first | omega | (split <;> omega)) (by first | omega | (split <;> omega)) dX6_readRealm_62 (fun hc62 => ?_) (fun hc62 => by exfalso; omega)
      refine PW.iconst (v := nI 1) (by decide) dX6_readRealm_225 ?_
      refine PW.zret rfl (by first | exact bI_nar _ | rfl) (Nat.le_refl _) (Nat.le_refl _) dX6_readRealm_226 ?_
      unfold RRQ
      rw [← hrd]
      exact ⟨rfl, hS, hK, fun _ => ⟨h27, hM, hV⟩, fun h => Bool.noConfusion h⟩
    rw [if_neg hk7] at hrd
    obtain ⟨va1, va2, va3⟩ := vaM_cases (t := t) hv9
    by_cases hfm : frm t.1 = []
    · have ei : itm f n t R = (false, t.2.2.1, R) := if_pos (Or.inl hfm)
      obtain ⟨n1, n2, n3, n4, n5, n6, n7⟩ := frm_no hfm
      rw [ei, if_neg (show ¬ false = true by decide)] at hrd
      have htk1 := tkM_1 (k := t.1)
      refine PW.aload_n rfl rfl dX6_readRealm_57 ?_
      refine PW.gI hS.1 (by decide) rfl (ht.2.1) fX6_107 dX6_readRealm_58 ?_
      refine PW.iconst (v := nI 2) (by decide) dX6_readRealm_61 ?_
      refine PW.icmp_eqN 225 (by decide) (by first | omega | (split <;> omega)) (by first | omega | (split <;> omega)) dX6_readRealm_62 (fun hc62 => by exfalso; omega) (fun hc62 => ?_)
      refine PW.aload_n rfl rfl dX6_readRealm_65 ?_
      refine PW.gI hS.1 (by decide) rfl (ht.2.1) fX6_107 dX6_readRealm_66 ?_
      refine PW.if_neN 79 (by decide) (by first | omega | (split <;> omega)) dX6_readRealm_69 (fun hc69 => ?_) (fun hc69 => ?_)
      · refine PW.iconst (v := nI 0) (by decide) dX6_readRealm_79 ?_
        refine PW.istore_n rfl (by decide) dX6_readRealm_80 (?_ : PW _ _ _ _ [(0, _), (1, _)] _ _ _)
        refine PW.iload_n rfl rfl dX6_readRealm_81 ?_
        refine PW.bipush (v := nI 107) (by decide) dX6_readRealm_82 ?_
        refine PW.icmp_neN 94 (by decide) (by decide) (by decide) dX6_readRealm_84 (fun _ => ?_) (fun h => absurd h (by decide))
        refine PW.iload_n rfl rfl dX6_readRealm_94 ?_
        refine PW.bipush (v := nI 97) (by decide) dX6_readRealm_95 ?_
        refine PW.icmp_neN 108 (by decide) (by decide) (by decide) dX6_readRealm_97 (fun _ => ?_) (fun h => absurd h (by decide))
        refine PW.iload_n rfl rfl dX6_readRealm_108 ?_
        refine PW.bipush (v := nI 110) (by decide) dX6_readRealm_109 ?_
        refine PW.icmp_neN 122 (by decide) (by decide) (by decide) dX6_readRealm_111 (fun _ => ?_) (fun h => absurd h (by decide))
        refine PW.iload_n rfl rfl dX6_readRealm_122 ?_
        refine PW.bipush (v := nI 115) (by decide) dX6_readRealm_123 ?_
        refine PW.icmp_neN 135 (by decide) (by decide) (by decide) dX6_readRealm_125 (fun _ => ?_) (fun h => absurd h (by decide))
        refine PW.iload_n rfl rfl dX6_readRealm_135 ?_
        refine PW.bipush (v := nI 104) (by decide) dX6_readRealm_136 ?_
        refine PW.icmp_neN 148 (by decide) (by decide) (by decide) dX6_readRealm_138 (fun _ => ?_) (fun h => absurd h (by decide))
        refine PW.iload_n rfl rfl dX6_readRealm_148 ?_
        refine PW.bipush (v := nI 121) (by decide) dX6_readRealm_149 ?_
        refine PW.icmp_neN 161 (by decide) (by decide) (by decide) dX6_readRealm_151 (fun _ => ?_) (fun h => absurd h (by decide))
        refine PW.iload_n rfl rfl dX6_readRealm_161 ?_
        refine PW.bipush (v := nI 116) (by decide) dX6_readRealm_162 ?_
        refine PW.icmp_neN 178 (by decide) (by decide) (by decide) dX6_readRealm_164 (fun _ => ?_) (fun h => absurd h (by decide))
        refine PW.iconst (v := nI 0) (by decide) dX6_readRealm_178 ?_
        refine PW.istore_n rfl (by decide) dX6_readRealm_179 (?_ : PW _ _ _ _ [(0, _), (1, _), (2, _)] _ _ _)
        refine PW.iload_n rfl rfl dX6_readRealm_180 ?_
        refine PW.if_neN 186 (by decide) (by decide) dX6_readRealm_181 (fun h => absurd h (by decide)) (fun _ => ?_)
        refine PW.iconst (v := nI 0) (by decide) dX6_readRealm_184 ?_
        refine PW.zret rfl (by first | exact bI_nar _ | rfl) (Nat.le_refl _) (Nat.le_refl _) dX6_readRealm_185 ?_
        unfold RRQ
        rw [← hrd]
        exact ⟨rfl, hS, hK, fun h => Bool.noConfusion h, fun _ => ht.2.2.2⟩
      · refine PW.aload_n rfl rfl dX6_readRealm_72 ?_
        refine PW.gI hS.1 (by decide) rfl (ht.2.2.1) fX6_104 dX6_readRealm_73 ?_
        refine PW.goto 80 (by decide) dX6_readRealm_76 ?_
        refine PW.istore_n rfl (by decide) dX6_readRealm_80 (?_ : PW _ _ _ _ [(0, _), (1, _)] _ _ _)
        refine PW.iload_n rfl rfl dX6_readRealm_81 ?_
        refine PW.bipush (v := nI 107) (by decide) dX6_readRealm_82 ?_
        refine PW.icmp_neN 94 (by decide) (by first | omega | (split <;> omega)) (by first | omega | (split <;> omega)) dX6_readRealm_84 (fun hc84 => ?_) (fun hc84 => by exfalso; omega)
        refine PW.iload_n rfl rfl dX6_readRealm_94 ?_
        refine PW.bipush (v := nI 97) (by decide) dX6_readRealm_95 ?_
        refine PW.icmp_neN 108 (by decide) (by first | omega | (split <;> omega)) (by first | omega | (split <;> omega)) dX6_readRealm_97 (fun hc97 => ?_) (fun hc97 => by exfalso; omega)
        refine PW.iload_n rfl rfl dX6_readRealm_108 ?_
        refine PW.bipush (v := nI 110) (by decide) dX6_readRealm_109 ?_
        refine PW.icmp_neN 122 (by decide) (by first | omega | (split <;> omega)) (by first | omega | (split <;> omega)) dX6_readRealm_111 (fun hc111 => ?_) (fun hc111 => by exfalso; omega)
        refine PW.iload_n rfl rfl dX6_readRealm_122 ?_
        refine PW.bipush (v := nI 115) (by decide) dX6_readRealm_123 ?_
        refine PW.icmp_neN 135 (by decide) (by first | omega | (split <;> omega)) (by first | omega | (split <;> omega)) dX6_readRealm_125 (fun hc125 => ?_) (fun hc125 => by exfalso; omega)
        refine PW.iload_n rfl rfl dX6_readRealm_135 ?_
        refine PW.bipush (v := nI 104) (by decide) dX6_readRealm_136 ?_
        refine PW.icmp_neN 148 (by decide) (by first | omega | (split <;> omega)) (by first | omega | (split <;> omega)) dX6_readRealm_138 (fun hc138 => ?_) (fun hc138 => by exfalso; omega)
        refine PW.iload_n rfl rfl dX6_readRealm_148 ?_
        refine PW.bipush (v := nI 121) (by decide) dX6_readRealm_149 ?_
        refine PW.icmp_neN 161 (by decide) (by first | omega | (split <;> omega)) (by first | omega | (split <;> omega)) dX6_readRealm_151 (fun hc151 => ?_) (fun hc151 => by exfalso; omega)
        refine PW.iload_n rfl rfl dX6_readRealm_161 ?_
        refine PW.bipush (v := nI 116) (by decide) dX6_readRealm_162 ?_
        refine PW.icmp_neN 178 (by decide) (by first | omega | (split <;> omega)) (by first | omega | (split <;> omega)) dX6_readRealm_164 (fun hc164 => ?_) (fun hc164 => by exfalso; omega)
        refine PW.iconst (v := nI 0) (by decide) dX6_readRealm_178 ?_
        refine PW.istore_n rfl (by decide) dX6_readRealm_179 (?_ : PW _ _ _ _ [(0, _), (1, _), (2, _)] _ _ _)
        refine PW.iload_n rfl rfl dX6_readRealm_180 ?_
        refine PW.if_neN 186 (by decide) (by decide) dX6_readRealm_181 (fun h => absurd h (by decide)) (fun _ => ?_)
        refine PW.iconst (v := nI 0) (by decide) dX6_readRealm_184 ?_
        refine PW.zret rfl (by first | exact bI_nar _ | rfl) (Nat.le_refl _) (Nat.le_refl _) dX6_readRealm_185 ?_
        unfold RRQ
        rw [← hrd]
        exact ⟨rfl, hS, hK, fun h => Bool.noConfusion h, fun _ => ht.2.2.2⟩
    have after : ∀ (c : Int32) (m1 : pw_M), RdQ b s sc m f n t R (some (.int (bI (rdi f n t R).1))) m1 → PW (l, G, mX6_readRealm, pw_rm 5 0 0, 0, 0) 0 0 179 [(0, .ref 95), (1, .int c)] [.int (bI (rdi f n t R).1)] m1 (RRQ b s sc mem f n) := fun c m1 hQ => by
      obtain ⟨-, hS, hK1, hok, hno⟩ := hQ
      have hK2 := hK.tr hK1.mr
      cases hr1 : (rdi f n t R).1
      · have ei : itm f n t R = (false, (rdi f n t R).2.1, R) := by rw [itm_rdi, if_neg (by rw [hr1]; decide)]
        rw [ei, if_neg (show ¬ false = true by decide)] at hrd
        have h18 := hno hr1
        refine PW.istore_n rfl (by decide) dX6_readRealm_179 (?_ : PW _ _ _ _ [(0, _), (1, _), (2, _)] _ _ _)
        refine PW.iload_n rfl rfl dX6_readRealm_180 ?_
        refine PW.if_neB 186 (by decide) dX6_readRealm_181 (fun hc181 => by cases hc181) (fun hc181 => ?_)
        refine PW.iconst (v := nI 0) (by decide) dX6_readRealm_184 ?_
        refine PW.zret rfl (by first | exact bI_nar _ | rfl) (Nat.le_refl _) (Nat.le_refl _) dX6_readRealm_185 ?_
        unfold RRQ
        rw [← hrd]
        exact ⟨rfl, hS, hK2, fun h => Bool.noConfusion h, fun _ => h18⟩
      obtain ⟨h15, hM1⟩ := hok hr1
      have hq2 := rdi_q hn hf hq hr1
      have ks2 := tk_spec hn hf hq2
      have ei := itm_rdi (f := f) (n := n) (t := t) (R := R)
      rw [if_pos hr1] at ei
      have hnt := m_nextToken hS (hX.mr hK2) hn hf hq2 h15
      refine PW.istore_n rfl (by decide) dX6_readRealm_179 (?_ : PW _ _ _ _ [(0, _), (1, _), (2, _)] _ _ _)
      refine PW.iload_n rfl rfl dX6_readRealm_180 ?_
      refine PW.if_neB 186 (by decide) dX6_readRealm_181 (fun hc181 => ?_) (fun hc181 => by cases hc181)
      refine PW.aload_n rfl rfl dX6_readRealm_186 ?_
      refine PW.dV (ci := 6) (j := 0) _ hS.1 (by decide) rfl kX6_114 (hnt) rfl rfl (Nat.le_of_ble_eq_true rfl) rfl ⟨by decide, by decide⟩ ⟨Nat.zero_le _, Nat.zero_le _⟩ dX6_readRealm_187 (fun v m1 q => ?_)
      obtain ⟨rfl, hS, hR2, hU⟩ := q
      skip
      have hK3 := hK2.tr hR2.mk.mr
      have hkM2 := tkM_le (k := (tk f n (rdi f n t R).2.1).1)
      obtain ⟨ua1, ua2, ua3⟩ := vaM_cases (t := tk f n (rdi f n t R).2.1) ks2.2.1
      have ub := tkM_1 (k := (tk f n (rdi f n t R).2.1).1)
      have h27b : fi m1 95 27 = nI i := (fi_fv (hR2.2 27 (by omega))).trans ((fi_fv (hK1.2 27 (by omega))).trans h27)
      by_cases h59 : (tk f n (rdi f n t R).2.1).1 = 59
      · rw [if_pos h59] at ei
        have hi1 : (itm f n t R).1 = true := by rw [ei]
        have hinv := itm_inv hV hi1
        obtain ⟨g1, g2⟩ := itm_q hn hf hq hi1
        rw [if_pos hi1] at hrd
        rw [ei] at hrd hinv g1 g2
        have g1 : t.2.2.2 < (tk f n (rdi f n t R).2.1).2.2.2 := g1
        have g2 : (tk f n (rdi f n t R).2.1).2.2.2 ≤ n := g2
        have hlt7 := hlt hk7
        have ks3 := tk_spec hn hf g2
        have uu := ua2 (by omega)
        refine PW.aload_n rfl rfl dX6_readRealm_190 ?_
        refine PW.gI hS.1 (by decide) rfl (hU.2.1) fX6_107 dX6_readRealm_191 ?_
        refine PW.if_neN 206 (by decide) (by first | omega | (split <;> omega)) dX6_readRealm_194 (fun hc194 => by (first | (exfalso; omega) | cases hc194)) (fun hc194 => ?_)
        refine PW.aload_n rfl rfl dX6_readRealm_197 ?_
        refine PW.gI hS.1 (by decide) rfl (hU.2.2.1) fX6_104 dX6_readRealm_198 ?_
        refine PW.bipush (v := nI 59) (by decide) dX6_readRealm_201 ?_
        refine PW.icmp_eqN 208 (by decide) (by first | omega | (split <;> omega)) (by first | omega | (split <;> omega)) dX6_readRealm_203 (fun hc203 => ?_) (fun hc203 => by (first | (exfalso; omega) | cases hc203))
        refine PW.aload_n rfl rfl dX6_readRealm_208 ?_
        refine PW.dup rfl dX6_readRealm_209 ?_
        refine PW.gI hS.1 (by decide) rfl (h27b) fX6_134 dX6_readRealm_210 ?_
        refine PW.iconst (v := nI 1) (by decide) dX6_readRealm_213 ?_
        refine PW.iaddN dX6_readRealm_214 ?_
        refine PW.tI hS (by decide) rfl pX6_134 dX6_readRealm_215 (fun hS hw215 => ?_)
        refine PW.aload_n rfl rfl dX6_readRealm_218 ?_
        refine PW.dV (ci := 6) (j := 0) _ hS.1 (by decide) rfl kX6_114 (m_nextToken hS ((hX.mr hK3).wF (j := 27) (by decide)) hn hf g2 ((fi_wF_ne (Or.inr (by decide))).trans hU.1)) rfl rfl (Nat.le_of_ble_eq_true rfl) rfl ⟨by decide, by decide⟩ ⟨Nat.zero_le _, Nat.zero_le _⟩ dX6_readRealm_219 (fun v m1 q => ?_)
        obtain ⟨rfl, hS, hR4, hU4⟩ := q
        refine PW.goto 57 (by decide) dX6_readRealm_222 ?_
        refine PW.drop [(0, .ref 95)] (fun r h => List.mem_of_mem_take (i := 1) h) ?_
        refine ih _ ⟨_, _, hS, (hK3.wF (by decide)).tr hR4.mk.mr, hU4, ks3.2.2.2.2.2.1, ks3.2.2.2.1, ks3.1, ks3.2.1, fun h => by have := ks3.2.2.2.2.2.2.1 h; omega, ?_, hinv, (fi_fv (hR4.2 27 (by omega))).trans hw215, ?_⟩
        · exact ((hM1.rn hR2.rn).ag (Ag.wF (A := fun r => r ≠ 95) (fun h => h rfl)) (fi_wF_ne (Or.inr (by decide))) (fi_wF_ne (Or.inr (by decide))) (fi_wF_ne (Or.inr (by decide))) (fun q h1 h2 => by omega)).rn hR4.rn
        · rw [show 201 - (i + 1) = 200 - i by omega]
          exact hrd
      · rw [if_neg h59] at ei
        rw [ei, if_neg (show ¬ false = true by decide)] at hrd
        refine PW.aload_n rfl rfl dX6_readRealm_190 ?_
        refine PW.gI hS.1 (by decide) rfl (hU.2.1) fX6_107 dX6_readRealm_191 ?_
        refine PW.if_neN 206 (by decide) (by first | omega | (split <;> omega)) dX6_readRealm_194 (fun hc194 => ?_) (fun hc194 => ?_)
        · refine PW.iconst (v := nI 0) (by decide) dX6_readRealm_206 ?_
          refine PW.zret rfl (by first | exact bI_nar _ | rfl) (Nat.le_refl _) (Nat.le_refl _) dX6_readRealm_207 ?_
          unfold RRQ
          rw [← hrd]
          exact ⟨rfl, hS, hK3, fun h => Bool.noConfusion h, fun _ => hU.2.2.2⟩
        · refine PW.aload_n rfl rfl dX6_readRealm_197 ?_
          refine PW.gI hS.1 (by decide) rfl (hU.2.2.1) fX6_104 dX6_readRealm_198 ?_
          refine PW.bipush (v := nI 59) (by decide) dX6_readRealm_201 ?_
          refine PW.icmp_eqN 208 (by decide) (by first | omega | (split <;> omega)) (by first | omega | (split <;> omega)) dX6_readRealm_203 (fun hc203 => by (first | (exfalso; omega) | cases hc203)) (fun hc203 => ?_)
          refine PW.iconst (v := nI 0) (by decide) dX6_readRealm_206 ?_
          refine PW.zret rfl (by first | exact bI_nar _ | rfl) (Nat.le_refl _) (Nat.le_refl _) dX6_readRealm_207 ?_
          unfold RRQ
          rw [← hrd]
          exact ⟨rfl, hS, hK3, fun h => Bool.noConfusion h, fun _ => hU.2.2.2⟩
    rcases frm_cases hfm with hh | hh | hh | hh | hh | hh | hh
    · have e1 : tkM t.1 = 0 := (va2 (by omega)).2
      have e2 : vaM t = 107 := (va2 (by omega)).1.trans hh
      refine PW.aload_n rfl rfl dX6_readRealm_57 ?_
      refine PW.gI hS.1 (by decide) rfl (ht.2.1.trans (congrArg nI e1)) fX6_107 dX6_readRealm_58 ?_
      refine PW.iconst (v := nI 2) (by decide) dX6_readRealm_61 ?_
      refine PW.icmp_eqN 225 (by decide) (by first | omega | (split <;> omega)) (by first | omega | (split <;> omega)) dX6_readRealm_62 (fun hc62 => by (exfalso; omega)) (fun hc62 => ?_)
      refine PW.aload_n rfl rfl dX6_readRealm_65 ?_
      refine PW.gI hS.1 (by decide) rfl (ht.2.1.trans (congrArg nI e1)) fX6_107 dX6_readRealm_66 ?_
      refine PW.if_neN 79 (by decide) (by first | omega | (split <;> omega)) dX6_readRealm_69 (fun hc69 => by (exfalso; omega)) (fun hc69 => ?_)
      refine PW.aload_n rfl rfl dX6_readRealm_72 ?_
      refine PW.gI hS.1 (by decide) rfl (ht.2.2.1.trans (congrArg nI e2)) fX6_104 dX6_readRealm_73 ?_
      refine PW.goto 80 (by decide) dX6_readRealm_76 ?_
      refine PW.istore_n rfl (by decide) dX6_readRealm_80 (?_ : PW _ _ _ _ [(0, _), (1, _)] _ _ _)
      refine PW.iload_n rfl rfl dX6_readRealm_81 ?_
      refine PW.bipush (v := nI 107) (by decide) dX6_readRealm_82 ?_
      refine PW.icmp_neN 94 (by decide) (by first | omega | (split <;> omega)) (by first | omega | (split <;> omega)) dX6_readRealm_84 (fun hc84 => by (exfalso; omega)) (fun hc84 => ?_)
      refine PW.aload_n rfl rfl dX6_readRealm_87 ?_
      refine PW.dV (ci := 6) (j := 0) _ hS.1 (by decide) rfl kX6_137 (m_readPocket hS hX1 hn hf hM hV ht hq hh) rfl rfl (Nat.le_of_ble_eq_true rfl) rfl ⟨by decide, by decide⟩ ⟨Nat.zero_le _, Nat.zero_le _⟩ dX6_readRealm_88 (fun v m1 q => ?_)
      obtain ⟨rfl, hS, hK1, hok, hno⟩ := q
      refine PW.goto 179 (by decide) dX6_readRealm_91 ?_
      exact after _ _ ⟨rfl, hS, hK1, hok, hno⟩
    · have e1 : tkM t.1 = 0 := (va2 (by omega)).2
      have e2 : vaM t = 97 := (va2 (by omega)).1.trans hh
      refine PW.aload_n rfl rfl dX6_readRealm_57 ?_
      refine PW.gI hS.1 (by decide) rfl (ht.2.1.trans (congrArg nI e1)) fX6_107 dX6_readRealm_58 ?_
      refine PW.iconst (v := nI 2) (by decide) dX6_readRealm_61 ?_
      refine PW.icmp_eqN 225 (by decide) (by first | omega | (split <;> omega)) (by first | omega | (split <;> omega)) dX6_readRealm_62 (fun hc62 => by (exfalso; omega)) (fun hc62 => ?_)
      refine PW.aload_n rfl rfl dX6_readRealm_65 ?_
      refine PW.gI hS.1 (by decide) rfl (ht.2.1.trans (congrArg nI e1)) fX6_107 dX6_readRealm_66 ?_
      refine PW.if_neN 79 (by decide) (by first | omega | (split <;> omega)) dX6_readRealm_69 (fun hc69 => by (exfalso; omega)) (fun hc69 => ?_)
      refine PW.aload_n rfl rfl dX6_readRealm_72 ?_
      refine PW.gI hS.1 (by decide) rfl (ht.2.2.1.trans (congrArg nI e2)) fX6_104 dX6_readRealm_73 ?_
      refine PW.goto 80 (by decide) dX6_readRealm_76 ?_
      refine PW.istore_n rfl (by decide) dX6_readRealm_80 (?_ : PW _ _ _ _ [(0, _), (1, _)] _ _ _)
      refine PW.iload_n rfl rfl dX6_readRealm_81 ?_
      refine PW.bipush (v := nI 107) (by decide) dX6_readRealm_82 ?_
      refine PW.icmp_neN 94 (by decide) (by first | omega | (split <;> omega)) (by first | omega | (split <;> omega)) dX6_readRealm_84 (fun hc84 => ?_) (fun hc84 => by (exfalso; omega))
      refine PW.iload_n rfl rfl dX6_readRealm_94 ?_
      refine PW.bipush (v := nI 97) (by decide) dX6_readRealm_95 ?_
      refine PW.icmp_neN 108 (by decide) (by first | omega | (split <;> omega)) (by first | omega | (split <;> omega)) dX6_readRealm_97 (fun hc97 => by (exfalso; omega)) (fun hc97 => ?_)
      refine PW.aload_n rfl rfl dX6_readRealm_100 ?_
      refine PW.iconst (v := nI 1) (by decide) dX6_readRealm_101 ?_
      refine PW.dV (ci := 6) (j := 0) _ hS.1 (by decide) rfl kX6_140 (m_readLaw hS hX1 hn hf hM hV ht hq (how := 1) (Or.inl ⟨hh, rfl⟩)) rfl rfl (Nat.le_of_ble_eq_true rfl) rfl ⟨by decide, by decide⟩ ⟨Nat.zero_le _, Nat.zero_le _⟩ dX6_readRealm_102 (fun v m1 q => ?_)
      obtain ⟨rfl, hS, hK1, hok, hno⟩ := q
      refine PW.goto 179 (by decide) dX6_readRealm_105 ?_
      exact after _ _ ⟨rfl, hS, hK1, hok, hno⟩
    · have e1 : tkM t.1 = 0 := (va2 (by omega)).2
      have e2 : vaM t = 110 := (va2 (by omega)).1.trans hh
      refine PW.aload_n rfl rfl dX6_readRealm_57 ?_
      refine PW.gI hS.1 (by decide) rfl (ht.2.1.trans (congrArg nI e1)) fX6_107 dX6_readRealm_58 ?_
      refine PW.iconst (v := nI 2) (by decide) dX6_readRealm_61 ?_
      refine PW.icmp_eqN 225 (by decide) (by first | omega | (split <;> omega)) (by first | omega | (split <;> omega)) dX6_readRealm_62 (fun hc62 => by (exfalso; omega)) (fun hc62 => ?_)
      refine PW.aload_n rfl rfl dX6_readRealm_65 ?_
      refine PW.gI hS.1 (by decide) rfl (ht.2.1.trans (congrArg nI e1)) fX6_107 dX6_readRealm_66 ?_
      refine PW.if_neN 79 (by decide) (by first | omega | (split <;> omega)) dX6_readRealm_69 (fun hc69 => by (exfalso; omega)) (fun hc69 => ?_)
      refine PW.aload_n rfl rfl dX6_readRealm_72 ?_
      refine PW.gI hS.1 (by decide) rfl (ht.2.2.1.trans (congrArg nI e2)) fX6_104 dX6_readRealm_73 ?_
      refine PW.goto 80 (by decide) dX6_readRealm_76 ?_
      refine PW.istore_n rfl (by decide) dX6_readRealm_80 (?_ : PW _ _ _ _ [(0, _), (1, _)] _ _ _)
      refine PW.iload_n rfl rfl dX6_readRealm_81 ?_
      refine PW.bipush (v := nI 107) (by decide) dX6_readRealm_82 ?_
      refine PW.icmp_neN 94 (by decide) (by first | omega | (split <;> omega)) (by first | omega | (split <;> omega)) dX6_readRealm_84 (fun hc84 => ?_) (fun hc84 => by (exfalso; omega))
      refine PW.iload_n rfl rfl dX6_readRealm_94 ?_
      refine PW.bipush (v := nI 97) (by decide) dX6_readRealm_95 ?_
      refine PW.icmp_neN 108 (by decide) (by first | omega | (split <;> omega)) (by first | omega | (split <;> omega)) dX6_readRealm_97 (fun hc97 => ?_) (fun hc97 => by (exfalso; omega))
      refine PW.iload_n rfl rfl dX6_readRealm_108 ?_
      refine PW.bipush (v := nI 110) (by decide) dX6_readRealm_109 ?_
      refine PW.icmp_neN 122 (by decide) (by first | omega | (split <;> omega)) (by first | omega | (split <;> omega)) dX6_readRealm_111 (fun hc111 => by (exfalso; omega)) (fun hc111 => ?_)
      refine PW.aload_n rfl rfl dX6_readRealm_114 ?_
      refine PW.iconst (v := nI 2) (by decide) dX6_readRealm_115 ?_
      refine PW.dV (ci := 6) (j := 0) _ hS.1 (by decide) rfl kX6_140 (m_readLaw hS hX1 hn hf hM hV ht hq (how := 2) (Or.inr ⟨hh, rfl⟩)) rfl rfl (Nat.le_of_ble_eq_true rfl) rfl ⟨by decide, by decide⟩ ⟨Nat.zero_le _, Nat.zero_le _⟩ dX6_readRealm_116 (fun v m1 q => ?_)
      obtain ⟨rfl, hS, hK1, hok, hno⟩ := q
      refine PW.goto 179 (by decide) dX6_readRealm_119 ?_
      exact after _ _ ⟨rfl, hS, hK1, hok, hno⟩
    · have e1 : tkM t.1 = 0 := (va2 (by omega)).2
      have e2 : vaM t = 115 := (va2 (by omega)).1.trans hh
      refine PW.aload_n rfl rfl dX6_readRealm_57 ?_
      refine PW.gI hS.1 (by decide) rfl (ht.2.1.trans (congrArg nI e1)) fX6_107 dX6_readRealm_58 ?_
      refine PW.iconst (v := nI 2) (by decide) dX6_readRealm_61 ?_
      refine PW.icmp_eqN 225 (by decide) (by first | omega | (split <;> omega)) (by first | omega | (split <;> omega)) dX6_readRealm_62 (fun hc62 => by (exfalso; omega)) (fun hc62 => ?_)
      refine PW.aload_n rfl rfl dX6_readRealm_65 ?_
      refine PW.gI hS.1 (by decide) rfl (ht.2.1.trans (congrArg nI e1)) fX6_107 dX6_readRealm_66 ?_
      refine PW.if_neN 79 (by decide) (by first | omega | (split <;> omega)) dX6_readRealm_69 (fun hc69 => by (exfalso; omega)) (fun hc69 => ?_)
      refine PW.aload_n rfl rfl dX6_readRealm_72 ?_
      refine PW.gI hS.1 (by decide) rfl (ht.2.2.1.trans (congrArg nI e2)) fX6_104 dX6_readRealm_73 ?_
      refine PW.goto 80 (by decide) dX6_readRealm_76 ?_
      refine PW.istore_n rfl (by decide) dX6_readRealm_80 (?_ : PW _ _ _ _ [(0, _), (1, _)] _ _ _)
      refine PW.iload_n rfl rfl dX6_readRealm_81 ?_
      refine PW.bipush (v := nI 107) (by decide) dX6_readRealm_82 ?_
      refine PW.icmp_neN 94 (by decide) (by first | omega | (split <;> omega)) (by first | omega | (split <;> omega)) dX6_readRealm_84 (fun hc84 => ?_) (fun hc84 => by (exfalso; omega))
      refine PW.iload_n rfl rfl dX6_readRealm_94 ?_
      refine PW.bipush (v := nI 97) (by decide) dX6_readRealm_95 ?_
      refine PW.icmp_neN 108 (by decide) (by first | omega | (split <;> omega)) (by first | omega | (split <;> omega)) dX6_readRealm_97 (fun hc97 => ?_) (fun hc97 => by (exfalso; omega))
      refine PW.iload_n rfl rfl dX6_readRealm_108 ?_
      refine PW.bipush (v := nI 110) (by decide) dX6_readRealm_109 ?_
      refine PW.icmp_neN 122 (by decide) (by first | omega | (split <;> omega)) (by first | omega | (split <;> omega)) dX6_readRealm_111 (fun hc111 => ?_) (fun hc111 => by (exfalso; omega))
      refine PW.iload_n rfl rfl dX6_readRealm_122 ?_
      refine PW.bipush (v := nI 115) (by decide) dX6_readRealm_123 ?_
      refine PW.icmp_neN 135 (by decide) (by first | omega | (split <;> omega)) (by first | omega | (split <;> omega)) dX6_readRealm_125 (fun hc125 => by (exfalso; omega)) (fun hc125 => ?_)
      refine PW.aload_n rfl rfl dX6_readRealm_128 ?_
      refine PW.dV (ci := 6) (j := 0) _ hS.1 (by decide) rfl kX6_144 (m_readSeam hS hX1 hn hf hM hV ht hq hh) rfl rfl (Nat.le_of_ble_eq_true rfl) rfl ⟨by decide, by decide⟩ ⟨Nat.zero_le _, Nat.zero_le _⟩ dX6_readRealm_129 (fun v m1 q => ?_)
      obtain ⟨rfl, hS, hK1, hok, hno⟩ := q
      refine PW.goto 179 (by decide) dX6_readRealm_132 ?_
      exact after _ _ ⟨rfl, hS, hK1, hok, hno⟩
    · have e1 : tkM t.1 = 0 := (va2 (by omega)).2
      have e2 : vaM t = 104 := (va2 (by omega)).1.trans hh
      refine PW.aload_n rfl rfl dX6_readRealm_57 ?_
      refine PW.gI hS.1 (by decide) rfl (ht.2.1.trans (congrArg nI e1)) fX6_107 dX6_readRealm_58 ?_
      refine PW.iconst (v := nI 2) (by decide) dX6_readRealm_61 ?_
      refine PW.icmp_eqN 225 (by decide) (by first | omega | (split <;> omega)) (by first | omega | (split <;> omega)) dX6_readRealm_62 (fun hc62 => by (exfalso; omega)) (fun hc62 => ?_)
      refine PW.aload_n rfl rfl dX6_readRealm_65 ?_
      refine PW.gI hS.1 (by decide) rfl (ht.2.1.trans (congrArg nI e1)) fX6_107 dX6_readRealm_66 ?_
      refine PW.if_neN 79 (by decide) (by first | omega | (split <;> omega)) dX6_readRealm_69 (fun hc69 => by (exfalso; omega)) (fun hc69 => ?_)
      refine PW.aload_n rfl rfl dX6_readRealm_72 ?_
      refine PW.gI hS.1 (by decide) rfl (ht.2.2.1.trans (congrArg nI e2)) fX6_104 dX6_readRealm_73 ?_
      refine PW.goto 80 (by decide) dX6_readRealm_76 ?_
      refine PW.istore_n rfl (by decide) dX6_readRealm_80 (?_ : PW _ _ _ _ [(0, _), (1, _)] _ _ _)
      refine PW.iload_n rfl rfl dX6_readRealm_81 ?_
      refine PW.bipush (v := nI 107) (by decide) dX6_readRealm_82 ?_
      refine PW.icmp_neN 94 (by decide) (by first | omega | (split <;> omega)) (by first | omega | (split <;> omega)) dX6_readRealm_84 (fun hc84 => ?_) (fun hc84 => by (exfalso; omega))
      refine PW.iload_n rfl rfl dX6_readRealm_94 ?_
      refine PW.bipush (v := nI 97) (by decide) dX6_readRealm_95 ?_
      refine PW.icmp_neN 108 (by decide) (by first | omega | (split <;> omega)) (by first | omega | (split <;> omega)) dX6_readRealm_97 (fun hc97 => ?_) (fun hc97 => by (exfalso; omega))
      refine PW.iload_n rfl rfl dX6_readRealm_108 ?_
      refine PW.bipush (v := nI 110) (by decide) dX6_readRealm_109 ?_
      refine PW.icmp_neN 122 (by decide) (by first | omega | (split <;> omega)) (by first | omega | (split <;> omega)) dX6_readRealm_111 (fun hc111 => ?_) (fun hc111 => by (exfalso; omega))
      refine PW.iload_n rfl rfl dX6_readRealm_122 ?_
      refine PW.bipush (v := nI 115) (by decide) dX6_readRealm_123 ?_
      refine PW.icmp_neN 135 (by decide) (by first | omega | (split <;> omega)) (by first | omega | (split <;> omega)) dX6_readRealm_125 (fun hc125 => ?_) (fun hc125 => by (exfalso; omega))
      refine PW.iload_n rfl rfl dX6_readRealm_135 ?_
      refine PW.bipush (v := nI 104) (by decide) dX6_readRealm_136 ?_
      refine PW.icmp_neN 148 (by decide) (by first | omega | (split <;> omega)) (by first | omega | (split <;> omega)) dX6_readRealm_138 (fun hc138 => by (exfalso; omega)) (fun hc138 => ?_)
      refine PW.aload_n rfl rfl dX6_readRealm_141 ?_
      refine PW.dV (ci := 6) (j := 0) _ hS.1 (by decide) rfl kX6_147 (m_readHole hS hX1 hn hf hM hV ht hq hh) rfl rfl (Nat.le_of_ble_eq_true rfl) rfl ⟨by decide, by decide⟩ ⟨Nat.zero_le _, Nat.zero_le _⟩ dX6_readRealm_142 (fun v m1 q => ?_)
      obtain ⟨rfl, hS, hK1, hok, hno⟩ := q
      refine PW.goto 179 (by decide) dX6_readRealm_145 ?_
      exact after _ _ ⟨rfl, hS, hK1, hok, hno⟩
    · have e1 : tkM t.1 = 0 := (va2 (by omega)).2
      have e2 : vaM t = 121 := (va2 (by omega)).1.trans hh
      refine PW.aload_n rfl rfl dX6_readRealm_57 ?_
      refine PW.gI hS.1 (by decide) rfl (ht.2.1.trans (congrArg nI e1)) fX6_107 dX6_readRealm_58 ?_
      refine PW.iconst (v := nI 2) (by decide) dX6_readRealm_61 ?_
      refine PW.icmp_eqN 225 (by decide) (by first | omega | (split <;> omega)) (by first | omega | (split <;> omega)) dX6_readRealm_62 (fun hc62 => by (exfalso; omega)) (fun hc62 => ?_)
      refine PW.aload_n rfl rfl dX6_readRealm_65 ?_
      refine PW.gI hS.1 (by decide) rfl (ht.2.1.trans (congrArg nI e1)) fX6_107 dX6_readRealm_66 ?_
      refine PW.if_neN 79 (by decide) (by first | omega | (split <;> omega)) dX6_readRealm_69 (fun hc69 => by (exfalso; omega)) (fun hc69 => ?_)
      refine PW.aload_n rfl rfl dX6_readRealm_72 ?_
      refine PW.gI hS.1 (by decide) rfl (ht.2.2.1.trans (congrArg nI e2)) fX6_104 dX6_readRealm_73 ?_
      refine PW.goto 80 (by decide) dX6_readRealm_76 ?_
      refine PW.istore_n rfl (by decide) dX6_readRealm_80 (?_ : PW _ _ _ _ [(0, _), (1, _)] _ _ _)
      refine PW.iload_n rfl rfl dX6_readRealm_81 ?_
      refine PW.bipush (v := nI 107) (by decide) dX6_readRealm_82 ?_
      refine PW.icmp_neN 94 (by decide) (by first | omega | (split <;> omega)) (by first | omega | (split <;> omega)) dX6_readRealm_84 (fun hc84 => ?_) (fun hc84 => by (exfalso; omega))
      refine PW.iload_n rfl rfl dX6_readRealm_94 ?_
      refine PW.bipush (v := nI 97) (by decide) dX6_readRealm_95 ?_
      refine PW.icmp_neN 108 (by decide) (by first | omega | (split <;> omega)) (by first | omega | (split <;> omega)) dX6_readRealm_97 (fun hc97 => ?_) (fun hc97 => by (exfalso; omega))
      refine PW.iload_n rfl rfl dX6_readRealm_108 ?_
      refine PW.bipush (v := nI 110) (by decide) dX6_readRealm_109 ?_
      refine PW.icmp_neN 122 (by decide) (by first | omega | (split <;> omega)) (by first | omega | (split <;> omega)) dX6_readRealm_111 (fun hc111 => ?_) (fun hc111 => by (exfalso; omega))
      refine PW.iload_n rfl rfl dX6_readRealm_122 ?_
      refine PW.bipush (v := nI 115) (by decide) dX6_readRealm_123 ?_
      refine PW.icmp_neN 135 (by decide) (by first | omega | (split <;> omega)) (by first | omega | (split <;> omega)) dX6_readRealm_125 (fun hc125 => ?_) (fun hc125 => by (exfalso; omega))
      refine PW.iload_n rfl rfl dX6_readRealm_135 ?_
      refine PW.bipush (v := nI 104) (by decide) dX6_readRealm_136 ?_
      refine PW.icmp_neN 148 (by decide) (by first | omega | (split <;> omega)) (by first | omega | (split <;> omega)) dX6_readRealm_138 (fun hc138 => ?_) (fun hc138 => by (exfalso; omega))
      refine PW.iload_n rfl rfl dX6_readRealm_148 ?_
      refine PW.bipush (v := nI 121) (by decide) dX6_readRealm_149 ?_
      refine PW.icmp_neN 161 (by decide) (by first | omega | (split <;> omega)) (by first | omega | (split <;> omega)) dX6_readRealm_151 (fun hc151 => by (exfalso; omega)) (fun hc151 => ?_)
      refine PW.aload_n rfl rfl dX6_readRealm_154 ?_
      refine PW.dV (ci := 6) (j := 0) _ hS.1 (by decide) rfl kX6_150 (m_readTreaty hS hX1 hn hf hM hV ht hq hh) rfl rfl (Nat.le_of_ble_eq_true rfl) rfl ⟨by decide, by decide⟩ ⟨Nat.zero_le _, Nat.zero_le _⟩ dX6_readRealm_155 (fun v m1 q => ?_)
      obtain ⟨rfl, hS, hK1, hok, hno⟩ := q
      refine PW.goto 179 (by decide) dX6_readRealm_158 ?_
      exact after _ _ ⟨rfl, hS, hK1, hok, hno⟩
    · have e1 : tkM t.1 = 0 := (va2 (by omega)).2
      have e2 : vaM t = 116 := (va2 (by omega)).1.trans hh
      refine PW.aload_n rfl rfl dX6_readRealm_57 ?_
      refine PW.gI hS.1 (by decide) rfl (ht.2.1.trans (congrArg nI e1)) fX6_107 dX6_readRealm_58 ?_
      refine PW.iconst (v := nI 2) (by decide) dX6_readRealm_61 ?_
      refine PW.icmp_eqN 225 (by decide) (by first | omega | (split <;> omega)) (by first | omega | (split <;> omega)) dX6_readRealm_62 (fun hc62 => by (exfalso; omega)) (fun hc62 => ?_)
      refine PW.aload_n rfl rfl dX6_readRealm_65 ?_
      refine PW.gI hS.1 (by decide) rfl (ht.2.1.trans (congrArg nI e1)) fX6_107 dX6_readRealm_66 ?_
      refine PW.if_neN 79 (by decide) (by first | omega | (split <;> omega)) dX6_readRealm_69 (fun hc69 => by (exfalso; omega)) (fun hc69 => ?_)
      refine PW.aload_n rfl rfl dX6_readRealm_72 ?_
      refine PW.gI hS.1 (by decide) rfl (ht.2.2.1.trans (congrArg nI e2)) fX6_104 dX6_readRealm_73 ?_
      refine PW.goto 80 (by decide) dX6_readRealm_76 ?_
      refine PW.istore_n rfl (by decide) dX6_readRealm_80 (?_ : PW _ _ _ _ [(0, _), (1, _)] _ _ _)
      refine PW.iload_n rfl rfl dX6_readRealm_81 ?_
      refine PW.bipush (v := nI 107) (by decide) dX6_readRealm_82 ?_
      refine PW.icmp_neN 94 (by decide) (by first | omega | (split <;> omega)) (by first | omega | (split <;> omega)) dX6_readRealm_84 (fun hc84 => ?_) (fun hc84 => by (exfalso; omega))
      refine PW.iload_n rfl rfl dX6_readRealm_94 ?_
      refine PW.bipush (v := nI 97) (by decide) dX6_readRealm_95 ?_
      refine PW.icmp_neN 108 (by decide) (by first | omega | (split <;> omega)) (by first | omega | (split <;> omega)) dX6_readRealm_97 (fun hc97 => ?_) (fun hc97 => by (exfalso; omega))
      refine PW.iload_n rfl rfl dX6_readRealm_108 ?_
      refine PW.bipush (v := nI 110) (by decide) dX6_readRealm_109 ?_
      refine PW.icmp_neN 122 (by decide) (by first | omega | (split <;> omega)) (by first | omega | (split <;> omega)) dX6_readRealm_111 (fun hc111 => ?_) (fun hc111 => by (exfalso; omega))
      refine PW.iload_n rfl rfl dX6_readRealm_122 ?_
      refine PW.bipush (v := nI 115) (by decide) dX6_readRealm_123 ?_
      refine PW.icmp_neN 135 (by decide) (by first | omega | (split <;> omega)) (by first | omega | (split <;> omega)) dX6_readRealm_125 (fun hc125 => ?_) (fun hc125 => by (exfalso; omega))
      refine PW.iload_n rfl rfl dX6_readRealm_135 ?_
      refine PW.bipush (v := nI 104) (by decide) dX6_readRealm_136 ?_
      refine PW.icmp_neN 148 (by decide) (by first | omega | (split <;> omega)) (by first | omega | (split <;> omega)) dX6_readRealm_138 (fun hc138 => ?_) (fun hc138 => by (exfalso; omega))
      refine PW.iload_n rfl rfl dX6_readRealm_148 ?_
      refine PW.bipush (v := nI 121) (by decide) dX6_readRealm_149 ?_
      refine PW.icmp_neN 161 (by decide) (by first | omega | (split <;> omega)) (by first | omega | (split <;> omega)) dX6_readRealm_151 (fun hc151 => ?_) (fun hc151 => by (exfalso; omega))
      refine PW.iload_n rfl rfl dX6_readRealm_161 ?_
      refine PW.bipush (v := nI 116) (by decide) dX6_readRealm_162 ?_
      refine PW.icmp_neN 178 (by decide) (by first | omega | (split <;> omega)) (by first | omega | (split <;> omega)) dX6_readRealm_164 (fun hc164 => by (exfalso; omega)) (fun hc164 => ?_)
      refine PW.aload_n rfl rfl dX6_readRealm_167 ?_
      refine PW.dV (ci := 6) (j := 0) _ hS.1 (by decide) rfl kX6_153 (m_readThing hS hX1 hn hf hM hV ht hq hh) rfl rfl (Nat.le_of_ble_eq_true rfl) rfl ⟨by decide, by decide⟩ ⟨Nat.zero_le _, Nat.zero_le _⟩ dX6_readRealm_168 (fun v m1 q => ?_)
      obtain ⟨rfl, hS, hK1, hok, hno⟩ := q
      refine PW.if_eqB 178 (by decide) dX6_readRealm_171 (fun hc171 => ?_) (fun hc171 => ?_)
      · refine PW.iconst (v := nI 0) (by decide) dX6_readRealm_178 ?_
        have hz := after (nI 116) _ ⟨rfl, hS, hK1, hok, hno⟩
        rw [hc171] at hz
        exact hz
      · refine PW.iconst (v := nI 1) (by decide) dX6_readRealm_174 ?_
        refine PW.goto 179 (by decide) dX6_readRealm_175 ?_
        have hz := after (nI 116) _ ⟨rfl, hS, hK1, hok, hno⟩
        rw [hc171] at hz
        exact hz
  · obtain ⟨t, R, hS, hK, ht, hq, hbg, hk, hv9, hlt, hM, hV, h27, hrd⟩ := hJ
    have hk7 : t.1 = 257 := Classical.byContradiction fun h => by have := hlt h; omega
    have hrd : rdl f n (0 + 1) t R 200 = rlm f n := hrd
    rw [rdl, if_pos hk7] at hrd
    have e2 := tkM_2.mpr hk7
    refine PW.aload_n rfl rfl dX6_readRealm_57 ?_
    refine PW.gI hS.1 (by decide) rfl (ht.2.1.trans (congrArg nI e2)) fX6_107 dX6_readRealm_58 ?_
    refine PW.iconst (v := nI 2) (by decide) dX6_readRealm_61 ?_
    refine PW.icmp_eqN 225 (by decide) (by first | omega | (split <;> omega)) (by first | omega | (split <;> omega)) dX6_readRealm_62 (fun hc62 => ?_) (fun hc62 => by (exfalso; omega))
    refine PW.iconst (v := nI 1) (by decide) dX6_readRealm_225 ?_
    refine PW.zret rfl (by first | exact bI_nar _ | rfl) (Nat.le_refl _) (Nat.le_refl _) dX6_readRealm_226 ?_
    unfold RRQ
    rw [← hrd]
    exact ⟨rfl, hS, hK, fun _ => ⟨h27, hM, hV⟩, fun h => Bool.noConfusion h⟩
end MRR
