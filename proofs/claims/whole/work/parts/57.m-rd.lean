/-! ===== the model reads items ===== -/
def rdi (f : Nat → Nat) (n : Nat) (t : Nat × Nat × Nat × Nat) (R : DR) : Bool × Nat × DR :=
  if frm t.1 = [] ∨ rom t.1 R = false then (false, t.2.2.1, R)
  else if (arg f n (R 0 0) (frm t.1) 0 (fun _ => 0) t.2.2.2).1 = true then (true, (arg f n (R 0 0) (frm t.1) 0 (fun _ => 0) t.2.2.2).2.1, tell t.1 R (arg f n (R 0 0) (frm t.1) 0 (fun _ => 0) t.2.2.2).2.2)
  else (false, (arg f n (R 0 0) (frm t.1) 0 (fun _ => 0) t.2.2.2).2.1, R)
/-- nothing of the model but what it reads into -/
def Mk (mem m : pw_M) : Prop := Ag (fun r => r ≠ 95 ∧ (r < 105 ∨ 109 < r)) mem m ∧ ∀ j, j < 15 ∨ 25 < j → fv m 95 j = fv mem 95 j
theorem Mk.rf {m : pw_M} : Mk m m := ⟨Ag.rf, fun _ _ => rfl⟩
theorem Mk.tr {m m1 m2 : pw_M} (h1 : Mk m m1) (h2 : Mk m1 m2) : Mk m m2 := ⟨h1.1.tr h2.1, fun j hj => (h2.2 j hj).trans (h1.2 j hj)⟩
theorem Rn.mk {m m1 : pw_M} (h : Rn m m1) : Mk m m1 := ⟨h.1.mono (fun r q => ⟨q.1, by omega⟩), fun j hj => h.2 j (by omega)⟩
theorem Rd.mk {m m1 : pw_M} (h : Rd m m1) : Mk m m1 := h.rn.mk
theorem Mk.wI {m m1 : pw_M} {r j : Nat} {x : Int32} (h : Mk m m1) (hr : 105 ≤ r ∧ r ≤ 109) : Mk m (wI m1 r j x) := ⟨h.1.tr (Ag.wI (fun q => by have := q.2; omega)), fun i hi => fv_wI.trans (h.2 i hi)⟩
theorem Mk.wF {m m1 : pw_M} {j : Nat} {v : Value} (h : Mk m m1) (hj : 15 ≤ j ∧ j ≤ 25) : Mk m (wF m1 95 j v) := ⟨h.1.tr (Ag.wF (fun q => q.1 rfl)), fun i hi => (fv_wF_ne (Or.inr (by omega))).trans (h.2 i hi)⟩
theorem TM.mk {mem m : pw_M} {L : Nat} {f : Nat → Nat} (h : TM mem L f) (hR : Mk mem m) : TM m L f := h.ag2 (fi_fv (hR.2 1 (by omega))) (fun q => hR.1.iv ⟨by decide, by omega⟩ q)
def RdQ (b s : Nat) (sc : pw_E) (mem : pw_M) (f : Nat → Nat) (n : Nat) (t : Nat × Nat × Nat × Nat) (R : DR) (v : Option Value) (m1 : pw_M) : Prop := v = some (.int (bI (rdi f n t R).1)) ∧ St b s sc m1 ∧ Mk mem m1 ∧ ((rdi f n t R).1 = true → fi m1 95 15 = nI (rdi f n t R).2.1 ∧ RM m1 (rdi f n t R).2.2) ∧ ((rdi f n t R).1 = false → fi m1 95 18 = nI (rdi f n t R).2.1)
section MRD
variable {b s : Nat} {sc : pw_E} {mem m1 : pw_M} {R : DR} {n : Nat} {f : Nat → Nat} {t : Nat × Nat × Nat × Nat}
theorem RdQ.no {pl : Nat} {S : DR} (h : rdi f n t R = (false, pl, S)) (hS : St b s sc m1) (hM : Mk mem m1) (h18 : fi m1 95 18 = nI pl) : RdQ b s sc mem f n t R (some (.int (nI 0))) m1 := by
  unfold RdQ
  rw [h]
  exact ⟨rfl, hS, hM, fun z => Bool.noConfusion z, fun _ => h18⟩
theorem RdQ.ok {pl : Nat} {S : DR} (h : rdi f n t R = (true, pl, S)) (hS : St b s sc m1) (hM : Mk mem m1) (h15 : fi m1 95 15 = nI pl) (hR : RM m1 S) : RdQ b s sc mem f n t R (some (.int (nI 1))) m1 := by
  unfold RdQ
  rw [h]
  exact ⟨rfl, hS, hM, fun _ => ⟨h15, hR⟩, fun z => Bool.noConfusion z⟩
theorem rdi_full (h : rom t.1 R = false) : rdi f n t R = (false, t.2.2.1, R) := if_pos (Or.inr h)
theorem rdi_ok {l : List Nat} (hf : frm t.1 = l) (hl : l ≠ []) (hr : rom t.1 R = true) (ha : (arg f n (R 0 0) l 0 (fun _ => 0) t.2.2.2).1 = true) : rdi f n t R = (true, (arg f n (R 0 0) l 0 (fun _ => 0) t.2.2.2).2.1, tell t.1 R (arg f n (R 0 0) l 0 (fun _ => 0) t.2.2.2).2.2) := by
  subst hf
  unfold rdi
  rw [if_neg (fun z => z.elim hl (fun y => by rw [hr] at y; cases y)), if_pos ha]
theorem rdi_no {l : List Nat} (hf : frm t.1 = l) (hl : l ≠ []) (hr : rom t.1 R = true) (ha : (arg f n (R 0 0) l 0 (fun _ => 0) t.2.2.2).1 = false) : rdi f n t R = (false, (arg f n (R 0 0) l 0 (fun _ => 0) t.2.2.2).2.1, R) := by
  subst hf
  unfold rdi
  rw [if_neg (fun z => z.elim hl (fun y => by rw [hr] at y; cases y)), if_neg (by rw [ha]; decide)]
theorem rdi_stop {l l2 : List Nat} (hf : frm t.1 = l ++ l2) (hl : l ≠ []) (hr : rom t.1 R = true) (ha : (arg f n (R 0 0) l 0 (fun _ => 0) t.2.2.2).1 = false) : rdi f n t R = (false, (arg f n (R 0 0) l 0 (fun _ => 0) t.2.2.2).2.1, R) := by
  have e := arg_stop (f := f) (n := n) (P := R 0 0) l l2 0 (fun _ => 0) t.2.2.2 ha
  rw [rdi_no hf (fun z => hl (List.append_eq_nil_iff.mp z).1) hr (by rw [e]; exact ha), e]
set_option maxHeartbeats 8000000 in
theorem m_readLaw (hS : St b s sc mem) (hX : TM mem n f) (hn : n ≤ 200) (hf : ∀ i, i < n → f i < 256) (hM : RM mem R) (hV : Inv R) (ht : MT mem t) (hq : t.2.2.2 ≤ n) {how : Nat} (hh : (t.1 = 97 ∧ how = 1) ∨ (t.1 = 110 ∧ how = 2)) : Ret 4 0 0 mX6_readLaw [.ref 95, .int (nI how)] mem (RdQ b s sc mem f n t R) := by
  have h6 := hV.1.1
  have hT6 := hV.1.2.1
  have hY6 := hV.1.2.2.1
  have hR : Rn mem mem := Rn.rf
  have h15 := ht.1
  have hfm : frm t.1 = [6, 7] := by rcases hh with h | h <;> (rw [h.1]; rfl)
  have hrm : rom t.1 R = true := by rcases hh with h | h <;> (rw [h.1]; rfl)
  have htl : ∀ sd, tell t.1 R sd = tellL how R sd := fun sd => by rcases hh with h | h <;> (rw [h.1, h.2]; rfl)
  refine Ret.of (by decide) (Nat.le_of_ble_eq_true rfl) fun l G => ?_
  show PW _ _ _ _ [(0, _), (1, _)] _ _ _
  have hc2 := m_two hS (hX.rn hR) hn hf hq h15 (hM.rn hR).1 h6
  refine PW.aload_n rfl rfl dX6_readLaw_0 ?_
  refine PW.dV (ci := 6) (j := 0) _ hS.1 (by decide) rfl kX6_127 (hc2) rfl rfl (Nat.le_of_ble_eq_true rfl) rfl ⟨by decide, by decide⟩ ⟨Nat.zero_le _, Nat.zero_le _⟩ dX6_readLaw_1 (fun v m1 q => ?_)
  obtain ⟨rfl, hS, hR1, hT1, hF1⟩ := q
  skip
  have hR := hR.tr hR1
  cases hb : (arg f n (R 0 0) [6, 7] 0 (fun _ => 0) t.2.2.2).1
  · refine PW.if_neB 9 (by decide) dX6_readLaw_4 (fun hc4 => by cases hc4) (fun hc4 => ?_)
    refine PW.iconst (v := nI 0) (by decide) dX6_readLaw_7 ?_
    refine PW.zret rfl (by first | exact bI_nar _ | rfl) (Nat.le_refl _) (Nat.le_refl _) dX6_readLaw_8 ?_
    exact RdQ.no (rdi_no hfm (by decide) hrm hb) hS hR.mk (hF1 hb)
  have hA := hT1 hb
  have hok : ∀ j, j < 2 → mbB (R 0 0) ([6, 7].getD j 0) ((arg f n (R 0 0) [6, 7] 0 (fun _ => 0) t.2.2.2).2.2 0) ((arg f n (R 0 0) [6, 7] 0 (fun _ => 0) t.2.2.2).2.2 j) = true := fun j hj => by have := (arg_ok (f := f) (n := n) (P := R 0 0) [6, 7] 0 (fun _ => 0) t.2.2.2 hb).2 j hj; rw [Nat.zero_add] at this; exact this
  have hrd := rdi_ok hfm (by decide) hrm hb
  obtain ⟨-, a15, a9⟩ := hA
  have hM1 := hM.rn hR
  generalize arg f n (R 0 0) [6, 7] 0 (fun _ => 0) t.2.2.2 = A at hok hrd a15 a9 hb
  generalize A.2.2 = sd at hok hrd a9
  generalize A.2.1 = pl at hrd a15
  have v0 : iv m1 109 0 = nI (sd 0) := a9 0 (by decide)
  have v1 : iv m1 109 1 = nI (sd 1) := a9 1 (by decide)
  have o0 : decide (sd 0 < R 0 0) = true := hok 0 (by decide)
  have o0 := of_decide_eq_true o0
  have o1 : decide (sd 1 < R 0 0 ∧ sd 1 ≠ sd 0) = true := hok 1 (by decide)
  have o1 := of_decide_eq_true o1
  rw [htl] at hrd
  refine PW.if_neB 9 (by decide) dX6_readLaw_4 (fun hc4 => ?_) (fun hc4 => by (first | (exfalso; omega) | cases hc4))
  refine PW.aload_n rfl rfl dX6_readLaw_9 ?_
  refine PW.gR hS.1 (by decide) rfl fX6_38 dX6_readLaw_10 ?_
  refine PW.bipush (v := nI 8) (by decide) dX6_readLaw_13 ?_
  refine PW.aload_n rfl rfl dX6_readLaw_15 ?_
  refine PW.gR hS.1 (by decide) rfl fX6_50 dX6_readLaw_16 ?_
  refine PW.iconst (v := nI 0) (by decide) dX6_readLaw_19 ?_
  refine PW.aI hS.1 (by decide) rfl (by exact rfl) ⟨by omega, by decide⟩ (v0) dX6_readLaw_20 ?_
  refine PW.imulN dX6_readLaw_21 ?_
  refine PW.iconst (v := nI 4) (by decide) dX6_readLaw_22 ?_
  refine PW.iaddN dX6_readLaw_23 ?_
  refine PW.iload_n rfl rfl dX6_readLaw_24 ?_
  refine PW.uI hS (by decide) rfl (by exact rfl) ⟨by omega, by decide⟩ dX6_readLaw_25 (fun hS hw25 => ?_)
  refine PW.aload_n rfl rfl dX6_readLaw_26 ?_
  refine PW.gR hS.1 (by decide) rfl fX6_38 dX6_readLaw_27 ?_
  refine PW.bipush (v := nI 8) (by decide) dX6_readLaw_30 ?_
  refine PW.aload_n rfl rfl dX6_readLaw_32 ?_
  refine PW.gR hS.1 (by decide) rfl fX6_50 dX6_readLaw_33 ?_
  refine PW.iconst (v := nI 0) (by decide) dX6_readLaw_36 ?_
  refine PW.aI hS.1 (by decide) rfl (by exact rfl) ⟨by omega, by decide⟩ ((iv_wI_ne (by decide)).trans v0) dX6_readLaw_37 ?_
  refine PW.imulN dX6_readLaw_38 ?_
  refine PW.iconst (v := nI 5) (by decide) dX6_readLaw_39 ?_
  refine PW.iaddN dX6_readLaw_40 ?_
  refine PW.aload_n rfl rfl dX6_readLaw_41 ?_
  refine PW.gR hS.1 (by decide) rfl fX6_50 dX6_readLaw_42 ?_
  refine PW.iconst (v := nI 1) (by decide) dX6_readLaw_45 ?_
  refine PW.aI hS.1 (by decide) rfl (by exact rfl) ⟨by omega, by decide⟩ ((iv_wI_ne (by decide)).trans v1) dX6_readLaw_46 ?_
  refine PW.uI hS (by decide) rfl (by exact rfl) ⟨by omega, by decide⟩ dX6_readLaw_47 (fun hS hw47 => ?_)
  skip
  refine PW.iconst (v := nI 1) (by decide) dX6_readLaw_48 ?_
  refine PW.zret rfl (by first | exact bI_nar _ | rfl) (Nat.le_refl _) (Nat.le_refl _) dX6_readLaw_49 ?_
  refine RdQ.ok hrd hS ((hR.mk.wI (by decide)).wI (by decide)) (fi_wI.trans (fi_wI.trans a15)) ?_
  obtain ⟨x1, x2, x3, x4, x5, x6⟩ := hM1
  have e5 : ∀ j, iv (wI (wI m1 105 (8 * sd 0 + 4) (nI how)) 105 (8 * sd 0 + 5) (nI (sd 1))) 105 j = if j = 8 * sd 0 + 5 then nI (sd 1) else if j = 8 * sd 0 + 4 then nI how else iv m1 105 j := fun j => by rw [hw47, hw25]
  refine ⟨fi_wI.trans (fi_wI.trans x1), fi_wI.trans (fi_wI.trans x2), fi_wI.trans (fi_wI.trans x3), fun k hk => ?_, fun a c ha hc => ?_, fun u hu => ?_⟩
  · have hk : k < R 0 0 := hk
    obtain ⟨y0, y1, y2, y3, y4, y5, y6, y7⟩ := x4 k hk
    refine ⟨by rw [e5, if_neg (by omega), if_neg (by omega)]; exact y0, by rw [e5, if_neg (by omega), if_neg (by omega)]; exact y1, by rw [e5, if_neg (by omega), if_neg (by omega)]; exact y2, by rw [e5, if_neg (by omega), if_neg (by omega)]; exact y3, ?_, ?_, by rw [e5, if_neg (by omega), if_neg (by omega)]; exact y6, fun z => by rw [e5, if_neg (by omega), if_neg (by omega)]; exact y7 z⟩
    · show _ = nI (if k = sd 0 then how else R 7 k)
      rw [e5]
      by_cases z : k = sd 0
      · rw [if_neg (by omega), if_pos (by omega), if_pos z]
      · rw [if_neg (by omega), if_neg (by omega), if_neg z]; exact y4
    · show (if k = sd 0 then how else R 7 k) ≠ 0 → _ = nI (if k = sd 0 then sd 1 else R 8 k)
      intro h
      rw [e5]
      by_cases z : k = sd 0
      · rw [if_pos (by omega), if_pos z]
      · rw [if_neg z] at h
        rw [if_neg (by omega), if_neg (by omega), if_neg z]; exact y5 h
  · rw [iv_wI_ne (by decide), iv_wI_ne (by decide), iv_wI_ne (by decide), iv_wI_ne (by decide)]; exact x5 a c ha hc
  · simp only [iv_wI_ne (show (108 : Nat) ≠ 105 by decide)]; exact x6 u hu
set_option maxHeartbeats 8000000 in
theorem m_readHole (hS : St b s sc mem) (hX : TM mem n f) (hn : n ≤ 200) (hf : ∀ i, i < n → f i < 256) (hM : RM mem R) (hV : Inv R) (ht : MT mem t) (hq : t.2.2.2 ≤ n) (hh : t.1 = 104) : Ret 4 0 0 mX6_readHole [.ref 95] mem (RdQ b s sc mem f n t R) := by
  have h6 := hV.1.1
  have hT6 := hV.1.2.1
  have hY6 := hV.1.2.2.1
  have hR : Rn mem mem := Rn.rf
  have h15 := ht.1
  have hfm : frm t.1 = [6, 7, 4] := by rw [hh]; rfl
  have hrm : rom t.1 R = true := by rw [hh]; rfl
  have htl : ∀ sd, tell t.1 R sd = tellH R sd := fun sd => by rw [hh]; rfl
  refine Ret.of (by decide) (Nat.le_of_ble_eq_true rfl) fun l G => ?_
  show PW _ _ _ _ [(0, _)] _ _ _
  have hc2 := m_two hS (hX.rn hR) hn hf hq h15 (hM.rn hR).1 h6
  refine PW.aload_n rfl rfl dX6_readHole_0 ?_
  refine PW.dV (ci := 6) (j := 0) _ hS.1 (by decide) rfl kX6_127 (hc2) rfl rfl (Nat.le_of_ble_eq_true rfl) rfl ⟨by decide, by decide⟩ ⟨Nat.zero_le _, Nat.zero_le _⟩ dX6_readHole_1 (fun v m1 q => ?_)
  obtain ⟨rfl, hS, hR1, hT1, hF1⟩ := q
  skip
  have hR := hR.tr hR1
  cases hb : (arg f n (R 0 0) [6, 7] 0 (fun _ => 0) t.2.2.2).1
  · refine PW.if_eqB 17 (by decide) dX6_readHole_4 (fun hc4 => ?_) (fun hc4 => by cases hc4)
    refine PW.iconst (v := nI 0) (by decide) dX6_readHole_17 ?_
    refine PW.zret rfl (by first | exact bI_nar _ | rfl) (Nat.le_refl _) (Nat.le_refl _) dX6_readHole_18 ?_
    exact RdQ.no (rdi_stop (l := [6, 7]) (l2 := [4]) hfm (by decide) hrm hb) hS hR.mk (hF1 hb)
  have hA := hT1 hb
  have hc3 := m_take hS (hX.rn hR) hn hf hq [6, 7] [6, 7, 4] 4 rfl (by decide) hA (lo := 1) (hi := nI 5) (by decide) (role_k (fun _ _ => rfl) (by decide))
  refine PW.if_eqB 17 (by decide) dX6_readHole_4 (fun hc4 => by cases hc4) (fun hc4 => ?_)
  refine PW.aload_n rfl rfl dX6_readHole_7 ?_
  refine PW.iconst (v := nI 2) (by decide) dX6_readHole_8 ?_
  refine PW.iconst (v := nI 1) (by decide) dX6_readHole_9 ?_
  refine PW.iconst (v := nI 5) (by decide) dX6_readHole_10 ?_
  refine PW.dV (ci := 6) (j := 0) _ hS.1 (by decide) rfl kX6_120 (hc3) rfl rfl (Nat.le_of_ble_eq_true rfl) rfl ⟨by decide, by decide⟩ ⟨Nat.zero_le _, Nat.zero_le _⟩ dX6_readHole_11 (fun v m1 q => ?_)
  obtain ⟨rfl, hS, hR1, hT1, hF1, -⟩ := q
  skip
  have hR := hR.tr hR1
  cases hb : (arg f n (R 0 0) [6, 7, 4] 0 (fun _ => 0) t.2.2.2).1
  · refine PW.if_neB 19 (by decide) dX6_readHole_14 (fun hc14 => by cases hc14) (fun hc14 => ?_)
    refine PW.iconst (v := nI 0) (by decide) dX6_readHole_17 ?_
    refine PW.zret rfl (by first | exact bI_nar _ | rfl) (Nat.le_refl _) (Nat.le_refl _) dX6_readHole_18 ?_
    exact RdQ.no (rdi_no hfm (by decide) hrm hb) hS hR.mk (hF1 hb)
  have hA := hT1 hb
  have hok : ∀ j, j < 3 → mbB (R 0 0) ([6, 7, 4].getD j 0) ((arg f n (R 0 0) [6, 7, 4] 0 (fun _ => 0) t.2.2.2).2.2 0) ((arg f n (R 0 0) [6, 7, 4] 0 (fun _ => 0) t.2.2.2).2.2 j) = true := fun j hj => by have := (arg_ok (f := f) (n := n) (P := R 0 0) [6, 7, 4] 0 (fun _ => 0) t.2.2.2 hb).2 j hj; rw [Nat.zero_add] at this; exact this
  have hrd := rdi_ok hfm (by decide) hrm hb
  obtain ⟨-, a15, a9⟩ := hA
  have hM1 := hM.rn hR
  generalize arg f n (R 0 0) [6, 7, 4] 0 (fun _ => 0) t.2.2.2 = A at hok hrd a15 a9 hb
  generalize A.2.2 = sd at hok hrd a9
  generalize A.2.1 = pl at hrd a15
  have v0 : iv m1 109 0 = nI (sd 0) := a9 0 (by decide)
  have v1 : iv m1 109 1 = nI (sd 1) := a9 1 (by decide)
  have v2 : iv m1 109 2 = nI (sd 2) := a9 2 (by decide)
  have o0 : decide (sd 0 < R 0 0) = true := hok 0 (by decide)
  have o0 := of_decide_eq_true o0
  have o1 : decide (sd 1 < R 0 0 ∧ sd 1 ≠ sd 0) = true := hok 1 (by decide)
  have o1 := of_decide_eq_true o1
  have o2 : decide (1 ≤ sd 2 ∧ sd 2 ≤ 5) = true := hok 2 (by decide)
  have o2 := of_decide_eq_true o2
  rw [htl] at hrd
  refine PW.if_neB 19 (by decide) dX6_readHole_14 (fun hc14 => ?_) (fun hc14 => by (first | (exfalso; omega) | cases hc14))
  refine PW.aload_n rfl rfl dX6_readHole_19 ?_
  refine PW.gR hS.1 (by decide) rfl fX6_38 dX6_readHole_20 ?_
  refine PW.bipush (v := nI 8) (by decide) dX6_readHole_23 ?_
  refine PW.aload_n rfl rfl dX6_readHole_25 ?_
  refine PW.gR hS.1 (by decide) rfl fX6_50 dX6_readHole_26 ?_
  refine PW.iconst (v := nI 0) (by decide) dX6_readHole_29 ?_
  refine PW.aI hS.1 (by decide) rfl (by exact rfl) ⟨by omega, by decide⟩ (v0) dX6_readHole_30 ?_
  refine PW.imulN dX6_readHole_31 ?_
  refine PW.bipush (v := nI 6) (by decide) dX6_readHole_32 ?_
  refine PW.iaddN dX6_readHole_34 ?_
  refine PW.aload_n rfl rfl dX6_readHole_35 ?_
  refine PW.gR hS.1 (by decide) rfl fX6_50 dX6_readHole_36 ?_
  refine PW.iconst (v := nI 1) (by decide) dX6_readHole_39 ?_
  refine PW.aI hS.1 (by decide) rfl (by exact rfl) ⟨by omega, by decide⟩ (v1) dX6_readHole_40 ?_
  refine PW.uI hS (by decide) rfl (by exact rfl) ⟨by omega, by decide⟩ dX6_readHole_41 (fun hS hw41 => ?_)
  refine PW.aload_n rfl rfl dX6_readHole_42 ?_
  refine PW.gR hS.1 (by decide) rfl fX6_38 dX6_readHole_43 ?_
  refine PW.bipush (v := nI 8) (by decide) dX6_readHole_46 ?_
  refine PW.aload_n rfl rfl dX6_readHole_48 ?_
  refine PW.gR hS.1 (by decide) rfl fX6_50 dX6_readHole_49 ?_
  refine PW.iconst (v := nI 0) (by decide) dX6_readHole_52 ?_
  refine PW.aI hS.1 (by decide) rfl (by exact rfl) ⟨by omega, by decide⟩ ((iv_wI_ne (by decide)).trans v0) dX6_readHole_53 ?_
  refine PW.imulN dX6_readHole_54 ?_
  refine PW.bipush (v := nI 7) (by decide) dX6_readHole_55 ?_
  refine PW.iaddN dX6_readHole_57 ?_
  refine PW.aload_n rfl rfl dX6_readHole_58 ?_
  refine PW.gR hS.1 (by decide) rfl fX6_50 dX6_readHole_59 ?_
  refine PW.iconst (v := nI 2) (by decide) dX6_readHole_62 ?_
  refine PW.aI hS.1 (by decide) rfl (by exact rfl) ⟨by omega, by decide⟩ ((iv_wI_ne (by decide)).trans v2) dX6_readHole_63 ?_
  refine PW.uI hS (by decide) rfl (by exact rfl) ⟨by omega, by decide⟩ dX6_readHole_64 (fun hS hw64 => ?_)
  skip
  refine PW.iconst (v := nI 1) (by decide) dX6_readHole_65 ?_
  refine PW.zret rfl (by first | exact bI_nar _ | rfl) (Nat.le_refl _) (Nat.le_refl _) dX6_readHole_66 ?_
  refine RdQ.ok hrd hS ((hR.mk.wI (by decide)).wI (by decide)) (fi_wI.trans (fi_wI.trans a15)) ?_
  obtain ⟨x1, x2, x3, x4, x5, x6⟩ := hM1
  have e5 : ∀ j, iv (wI (wI m1 105 (8 * sd 0 + 6) (nI (sd 1))) 105 (8 * sd 0 + 7) (nI (sd 2))) 105 j = if j = 8 * sd 0 + 7 then nI (sd 2) else if j = 8 * sd 0 + 6 then nI (sd 1) else iv m1 105 j := fun j => by rw [hw64, hw41]
  refine ⟨fi_wI.trans (fi_wI.trans x1), fi_wI.trans (fi_wI.trans x2), fi_wI.trans (fi_wI.trans x3), fun k hk => ?_, fun a c ha hc => ?_, fun u hu => ?_⟩
  · have hk : k < R 0 0 := hk
    obtain ⟨y0, y1, y2, y3, y4, y5, y6, y7⟩ := x4 k hk
    refine ⟨by rw [e5, if_neg (by omega), if_neg (by omega)]; exact y0, by rw [e5, if_neg (by omega), if_neg (by omega)]; exact y1, by rw [e5, if_neg (by omega), if_neg (by omega)]; exact y2, by rw [e5, if_neg (by omega), if_neg (by omega)]; exact y3, by rw [e5, if_neg (by omega), if_neg (by omega)]; exact y4, fun z => by rw [e5, if_neg (by omega), if_neg (by omega)]; exact y5 z, ?_, ?_⟩
    · show _ = hI (if k = sd 0 then sd 1 else R 10 k)
      rw [e5]
      by_cases z : k = sd 0
      · rw [if_neg (by omega), if_pos (by omega), if_pos z, hI_lt (by omega)]
      · rw [if_neg (by omega), if_neg (by omega), if_neg z]; exact y6
    · show (if k = sd 0 then sd 1 else R 10 k) ≠ 9 → _ = nI (if k = sd 0 then sd 2 else R 11 k)
      intro h
      rw [e5]
      by_cases z : k = sd 0
      · rw [if_pos (by omega), if_pos z]
      · rw [if_neg z] at h
        rw [if_neg (by omega), if_neg (by omega), if_neg z]; exact y7 h
  · rw [iv_wI_ne (by decide), iv_wI_ne (by decide), iv_wI_ne (by decide), iv_wI_ne (by decide)]; exact x5 a c ha hc
  · simp only [iv_wI_ne (show (108 : Nat) ≠ 105 by decide)]; exact x6 u hu
set_option maxHeartbeats 8000000 in
theorem m_readSeam (hS : St b s sc mem) (hX : TM mem n f) (hn : n ≤ 200) (hf : ∀ i, i < n → f i < 256) (hM : RM mem R) (hV : Inv R) (ht : MT mem t) (hq : t.2.2.2 ≤ n) (hh : t.1 = 115) : Ret 4 0 0 mX6_readSeam [.ref 95] mem (RdQ b s sc mem f n t R) := by
  have h6 := hV.1.1
  have hT6 := hV.1.2.1
  have hY6 := hV.1.2.2.1
  have hR : Rn mem mem := Rn.rf
  have h15 := ht.1
  have hfm : frm t.1 = [6, 7] := by rw [hh]; rfl
  have hrm : rom t.1 R = true := by rw [hh]; rfl
  have htl : ∀ sd, tell t.1 R sd = tellS R sd := fun sd => by rw [hh]; rfl
  refine Ret.of (by decide) (Nat.le_of_ble_eq_true rfl) fun l G => ?_
  show PW _ _ _ _ [(0, _)] _ _ _
  have hc2 := m_two hS (hX.rn hR) hn hf hq h15 (hM.rn hR).1 h6
  refine PW.aload_n rfl rfl dX6_readSeam_0 ?_
  refine PW.dV (ci := 6) (j := 0) _ hS.1 (by decide) rfl kX6_127 (hc2) rfl rfl (Nat.le_of_ble_eq_true rfl) rfl ⟨by decide, by decide⟩ ⟨Nat.zero_le _, Nat.zero_le _⟩ dX6_readSeam_1 (fun v m1 q => ?_)
  obtain ⟨rfl, hS, hR1, hT1, hF1⟩ := q
  skip
  have hR := hR.tr hR1
  cases hb : (arg f n (R 0 0) [6, 7] 0 (fun _ => 0) t.2.2.2).1
  · refine PW.if_neB 9 (by decide) dX6_readSeam_4 (fun hc4 => by cases hc4) (fun hc4 => ?_)
    refine PW.iconst (v := nI 0) (by decide) dX6_readSeam_7 ?_
    refine PW.zret rfl (by first | exact bI_nar _ | rfl) (Nat.le_refl _) (Nat.le_refl _) dX6_readSeam_8 ?_
    exact RdQ.no (rdi_no hfm (by decide) hrm hb) hS hR.mk (hF1 hb)
  have hA := hT1 hb
  have hok : ∀ j, j < 2 → mbB (R 0 0) ([6, 7].getD j 0) ((arg f n (R 0 0) [6, 7] 0 (fun _ => 0) t.2.2.2).2.2 0) ((arg f n (R 0 0) [6, 7] 0 (fun _ => 0) t.2.2.2).2.2 j) = true := fun j hj => by have := (arg_ok (f := f) (n := n) (P := R 0 0) [6, 7] 0 (fun _ => 0) t.2.2.2 hb).2 j hj; rw [Nat.zero_add] at this; exact this
  have hrd := rdi_ok hfm (by decide) hrm hb
  obtain ⟨-, a15, a9⟩ := hA
  have hM1 := hM.rn hR
  generalize arg f n (R 0 0) [6, 7] 0 (fun _ => 0) t.2.2.2 = A at hok hrd a15 a9 hb
  generalize A.2.2 = sd at hok hrd a9
  generalize A.2.1 = pl at hrd a15
  have v0 : iv m1 109 0 = nI (sd 0) := a9 0 (by decide)
  have v1 : iv m1 109 1 = nI (sd 1) := a9 1 (by decide)
  have o0 : decide (sd 0 < R 0 0) = true := hok 0 (by decide)
  have o0 := of_decide_eq_true o0
  have o1 : decide (sd 1 < R 0 0 ∧ sd 1 ≠ sd 0) = true := hok 1 (by decide)
  have o1 := of_decide_eq_true o1
  rw [htl] at hrd
  refine PW.if_neB 9 (by decide) dX6_readSeam_4 (fun hc4 => ?_) (fun hc4 => by (first | (exfalso; omega) | cases hc4))
  refine PW.aload_n rfl rfl dX6_readSeam_9 ?_
  refine PW.gR hS.1 (by decide) rfl fX6_41 dX6_readSeam_10 ?_
  refine PW.bipush (v := nI 6) (by decide) dX6_readSeam_13 ?_
  refine PW.aload_n rfl rfl dX6_readSeam_15 ?_
  refine PW.gR hS.1 (by decide) rfl fX6_50 dX6_readSeam_16 ?_
  refine PW.iconst (v := nI 0) (by decide) dX6_readSeam_19 ?_
  refine PW.aI hS.1 (by decide) rfl (by exact rfl) ⟨by omega, by decide⟩ (v0) dX6_readSeam_20 ?_
  refine PW.imulN dX6_readSeam_21 ?_
  refine PW.aload_n rfl rfl dX6_readSeam_22 ?_
  refine PW.gR hS.1 (by decide) rfl fX6_50 dX6_readSeam_23 ?_
  refine PW.iconst (v := nI 1) (by decide) dX6_readSeam_26 ?_
  refine PW.aI hS.1 (by decide) rfl (by exact rfl) ⟨by omega, by decide⟩ (v1) dX6_readSeam_27 ?_
  refine PW.iaddN dX6_readSeam_28 ?_
  refine PW.iconst (v := nI 1) (by decide) dX6_readSeam_29 ?_
  refine PW.uZ hS (by decide) rfl (by exact rfl) ⟨by omega, by decide⟩ (by first | exact bI_vp _ | rfl) dX6_readSeam_30 (fun hS hw30 => ?_)
  refine PW.aload_n rfl rfl dX6_readSeam_31 ?_
  refine PW.gR hS.1 (by decide) rfl fX6_41 dX6_readSeam_32 ?_
  refine PW.bipush (v := nI 6) (by decide) dX6_readSeam_35 ?_
  refine PW.aload_n rfl rfl dX6_readSeam_37 ?_
  refine PW.gR hS.1 (by decide) rfl fX6_50 dX6_readSeam_38 ?_
  refine PW.iconst (v := nI 1) (by decide) dX6_readSeam_41 ?_
  refine PW.aI hS.1 (by decide) rfl (by exact rfl) ⟨by omega, by decide⟩ ((iv_wI_ne (by decide)).trans v1) dX6_readSeam_42 ?_
  refine PW.imulN dX6_readSeam_43 ?_
  refine PW.aload_n rfl rfl dX6_readSeam_44 ?_
  refine PW.gR hS.1 (by decide) rfl fX6_50 dX6_readSeam_45 ?_
  refine PW.iconst (v := nI 0) (by decide) dX6_readSeam_48 ?_
  refine PW.aI hS.1 (by decide) rfl (by exact rfl) ⟨by omega, by decide⟩ ((iv_wI_ne (by decide)).trans v0) dX6_readSeam_49 ?_
  refine PW.iaddN dX6_readSeam_50 ?_
  refine PW.iconst (v := nI 1) (by decide) dX6_readSeam_51 ?_
  refine PW.uZ hS (by decide) rfl (by exact rfl) ⟨by omega, by decide⟩ (by first | exact bI_vp _ | rfl) dX6_readSeam_52 (fun hS hw52 => ?_)
  skip
  refine PW.iconst (v := nI 1) (by decide) dX6_readSeam_53 ?_
  refine PW.zret rfl (by first | exact bI_nar _ | rfl) (Nat.le_refl _) (Nat.le_refl _) dX6_readSeam_54 ?_
  refine RdQ.ok hrd hS ((hR.mk.wI (by decide)).wI (by decide)) (fi_wI.trans (fi_wI.trans a15)) ?_
  obtain ⟨x1, x2, x3, x4, x5, x6⟩ := hM1
  have e6 : ∀ j, iv (wI (wI m1 106 (6 * sd 0 + sd 1) (nI 1)) 106 (6 * sd 1 + sd 0) (nI 1)) 106 j = if j = 6 * sd 1 + sd 0 then nI 1 else if j = 6 * sd 0 + sd 1 then nI 1 else iv m1 106 j := fun j => by rw [hw52, hw30]
  refine ⟨fi_wI.trans (fi_wI.trans x1), fi_wI.trans (fi_wI.trans x2), fi_wI.trans (fi_wI.trans x3), fun k hk => ?_, fun a c ha hc => ?_, fun u hu => ?_⟩
  · simp only [iv_wI_ne (show (105 : Nat) ≠ 106 by decide)]; exact x4 k hk
  · refine ⟨?_, by rw [iv_wI_ne (by decide), iv_wI_ne (by decide)]; exact (x5 a c ha hc).2⟩
    have y := (x5 a c ha hc).1
    show _ = bI ((if a = sd 1 then R 9 a ||| 2 ^ sd 0 else if a = sd 0 then R 9 a ||| 2 ^ sd 1 else R 9 a).testBit c)
    rw [e6]
    by_cases z1 : a = sd 1
    · rw [if_pos z1, Nat.testBit_or]
      by_cases z2 : c = sd 0
      · rw [if_pos (by omega), z2, Nat.testBit_two_pow_self, Bool.or_true]; rfl
      · rw [if_neg (by omega), if_neg (by omega), Nat.testBit_two_pow_of_ne (fun q => z2 q.symm), Bool.or_false]; exact y
    · rw [if_neg z1, if_neg (show ¬ 6 * a + c = 6 * sd 1 + sd 0 by omega)]
      by_cases z3 : a = sd 0
      · rw [if_pos z3, Nat.testBit_or]
        by_cases z2 : c = sd 1
        · rw [if_pos (by omega), z2, Nat.testBit_two_pow_self, Bool.or_true]; rfl
        · rw [if_neg (by omega), Nat.testBit_two_pow_of_ne (fun q => z2 q.symm), Bool.or_false]; exact y
      · rw [if_neg z3, if_neg (by omega)]; exact y
  · simp only [iv_wI_ne (show (108 : Nat) ≠ 106 by decide)]; exact x6 u hu
set_option maxHeartbeats 8000000 in
theorem m_readTreaty (hS : St b s sc mem) (hX : TM mem n f) (hn : n ≤ 200) (hf : ∀ i, i < n → f i < 256) (hM : RM mem R) (hV : Inv R) (ht : MT mem t) (hq : t.2.2.2 ≤ n) (hh : t.1 = 121) : Ret 4 0 0 mX6_readTreaty [.ref 95] mem (RdQ b s sc mem f n t R) := by
  have h6 := hV.1.1
  have hT6 := hV.1.2.1
  have hY6 := hV.1.2.2.1
  have hR : Rn mem mem := Rn.rf
  have h15 := ht.1
  have hfm : frm t.1 = [6, 7, 3] := by rw [hh]; rfl
  have htl : ∀ sd, tell t.1 R sd = tellY R sd := fun sd => by rw [hh]; rfl
  by_cases hfull : R 2 0 = 12
  · have hrm : rom t.1 R = false := by rw [hh]; exact decide_eq_false (by omega)
    refine Ret.of (by decide) (Nat.le_of_ble_eq_true rfl) fun l G => ?_
    show PW _ _ _ _ [(0, _)] _ _ _
    refine PW.aload_n rfl rfl dX6_readTreaty_0 ?_
    refine PW.gI hS.1 (by decide) rfl (hM.2.2.1) fX6_131 dX6_readTreaty_1 ?_
    refine PW.bipush (v := nI 12) (by decide) dX6_readTreaty_4 ?_
    refine PW.icmp_eqN 26 (by decide) (by first | omega | (split <;> omega)) (by first | omega | (split <;> omega)) dX6_readTreaty_6 (fun hc6 => ?_) (fun hc6 => by exfalso; omega)
    refine PW.iconst (v := nI 0) (by decide) dX6_readTreaty_26 ?_
    refine PW.zret rfl (by first | exact bI_nar _ | rfl) (Nat.le_refl _) (Nat.le_refl _) dX6_readTreaty_27 ?_
    exact RdQ.no (rdi_full hrm) hS Mk.rf ht.2.2.2
  have hrm : rom t.1 R = true := by rw [hh]; exact decide_eq_true (by omega)
  refine Ret.of (by decide) (Nat.le_of_ble_eq_true rfl) fun l G => ?_
  show PW _ _ _ _ [(0, _)] _ _ _
  have hc2 := m_two hS (hX.rn hR) hn hf hq h15 (hM.rn hR).1 h6
  refine PW.aload_n rfl rfl dX6_readTreaty_0 ?_
  refine PW.gI hS.1 (by decide) rfl (hM.2.2.1) fX6_131 dX6_readTreaty_1 ?_
  refine PW.bipush (v := nI 12) (by decide) dX6_readTreaty_4 ?_
  refine PW.icmp_eqN 26 (by decide) (by first | omega | (split <;> omega)) (by first | omega | (split <;> omega)) dX6_readTreaty_6 (fun hc6 => by exfalso; omega) (fun hc6 => ?_)
  refine PW.aload_n rfl rfl dX6_readTreaty_9 ?_
  refine PW.dV (ci := 6) (j := 0) _ hS.1 (by decide) rfl kX6_127 (hc2) rfl rfl (Nat.le_of_ble_eq_true rfl) rfl ⟨by decide, by decide⟩ ⟨Nat.zero_le _, Nat.zero_le _⟩ dX6_readTreaty_10 (fun v m1 q => ?_)
  obtain ⟨rfl, hS, hR1, hT1, hF1⟩ := q
  skip
  have hR := hR.tr hR1
  cases hb : (arg f n (R 0 0) [6, 7] 0 (fun _ => 0) t.2.2.2).1
  · refine PW.if_eqB 26 (by decide) dX6_readTreaty_13 (fun hc13 => ?_) (fun hc13 => by cases hc13)
    refine PW.iconst (v := nI 0) (by decide) dX6_readTreaty_26 ?_
    refine PW.zret rfl (by first | exact bI_nar _ | rfl) (Nat.le_refl _) (Nat.le_refl _) dX6_readTreaty_27 ?_
    exact RdQ.no (rdi_stop (l := [6, 7]) (l2 := [3]) hfm (by decide) hrm hb) hS hR.mk (hF1 hb)
  have hA := hT1 hb
  have hc3 := m_take hS (hX.rn hR) hn hf hq [6, 7] [6, 7, 3] 3 rfl (by decide) hA (lo := 0) (hi := nI 5) (by decide) (role_k (fun _ _ => rfl) (by decide))
  refine PW.if_eqB 26 (by decide) dX6_readTreaty_13 (fun hc13 => by cases hc13) (fun hc13 => ?_)
  refine PW.aload_n rfl rfl dX6_readTreaty_16 ?_
  refine PW.iconst (v := nI 2) (by decide) dX6_readTreaty_17 ?_
  refine PW.iconst (v := nI 0) (by decide) dX6_readTreaty_18 ?_
  refine PW.iconst (v := nI 5) (by decide) dX6_readTreaty_19 ?_
  refine PW.dV (ci := 6) (j := 0) _ hS.1 (by decide) rfl kX6_120 (hc3) rfl rfl (Nat.le_of_ble_eq_true rfl) rfl ⟨by decide, by decide⟩ ⟨Nat.zero_le _, Nat.zero_le _⟩ dX6_readTreaty_20 (fun v m1 q => ?_)
  obtain ⟨rfl, hS, hR1, hT1, hF1, -⟩ := q
  skip
  have hR := hR.tr hR1
  cases hb : (arg f n (R 0 0) [6, 7, 3] 0 (fun _ => 0) t.2.2.2).1
  · refine PW.if_neB 28 (by decide) dX6_readTreaty_23 (fun hc23 => by cases hc23) (fun hc23 => ?_)
    refine PW.iconst (v := nI 0) (by decide) dX6_readTreaty_26 ?_
    refine PW.zret rfl (by first | exact bI_nar _ | rfl) (Nat.le_refl _) (Nat.le_refl _) dX6_readTreaty_27 ?_
    exact RdQ.no (rdi_no hfm (by decide) hrm hb) hS hR.mk (hF1 hb)
  have hA := hT1 hb
  have hok : ∀ j, j < 3 → mbB (R 0 0) ([6, 7, 3].getD j 0) ((arg f n (R 0 0) [6, 7, 3] 0 (fun _ => 0) t.2.2.2).2.2 0) ((arg f n (R 0 0) [6, 7, 3] 0 (fun _ => 0) t.2.2.2).2.2 j) = true := fun j hj => by have := (arg_ok (f := f) (n := n) (P := R 0 0) [6, 7, 3] 0 (fun _ => 0) t.2.2.2 hb).2 j hj; rw [Nat.zero_add] at this; exact this
  have hrd := rdi_ok hfm (by decide) hrm hb
  obtain ⟨-, a15, a9⟩ := hA
  have hM1 := hM.rn hR
  generalize arg f n (R 0 0) [6, 7, 3] 0 (fun _ => 0) t.2.2.2 = A at hok hrd a15 a9 hb
  generalize A.2.2 = sd at hok hrd a9
  generalize A.2.1 = pl at hrd a15
  have v0 : iv m1 109 0 = nI (sd 0) := a9 0 (by decide)
  have v1 : iv m1 109 1 = nI (sd 1) := a9 1 (by decide)
  have v2 : iv m1 109 2 = nI (sd 2) := a9 2 (by decide)
  have o0 : decide (sd 0 < R 0 0) = true := hok 0 (by decide)
  have o0 := of_decide_eq_true o0
  have o1 : decide (sd 1 < R 0 0 ∧ sd 1 ≠ sd 0) = true := hok 1 (by decide)
  have o1 := of_decide_eq_true o1
  have o2 : decide (0 ≤ sd 2 ∧ sd 2 ≤ 5) = true := hok 2 (by decide)
  have o2 := of_decide_eq_true o2
  rw [htl] at hrd
  have w1 := (hM1.2.2.2.2.1 (sd 0) (sd 1) (by omega) (by omega)).2
  have w2 := (hM1.2.2.2.2.1 (sd 1) (sd 0) (by omega) (by omega)).2
  refine PW.if_neB 28 (by decide) dX6_readTreaty_23 (fun hc23 => ?_) (fun hc23 => by (first | (exfalso; omega) | cases hc23))
  refine PW.aload_n rfl rfl dX6_readTreaty_28 ?_
  refine PW.gR hS.1 (by decide) rfl fX6_44 dX6_readTreaty_29 ?_
  refine PW.bipush (v := nI 6) (by decide) dX6_readTreaty_32 ?_
  refine PW.aload_n rfl rfl dX6_readTreaty_34 ?_
  refine PW.gR hS.1 (by decide) rfl fX6_50 dX6_readTreaty_35 ?_
  refine PW.iconst (v := nI 0) (by decide) dX6_readTreaty_38 ?_
  refine PW.aI hS.1 (by decide) rfl (by exact rfl) ⟨by omega, by decide⟩ (v0) dX6_readTreaty_39 ?_
  refine PW.imulN dX6_readTreaty_40 ?_
  refine PW.aload_n rfl rfl dX6_readTreaty_41 ?_
  refine PW.gR hS.1 (by decide) rfl fX6_50 dX6_readTreaty_42 ?_
  refine PW.iconst (v := nI 1) (by decide) dX6_readTreaty_45 ?_
  refine PW.aI hS.1 (by decide) rfl (by exact rfl) ⟨by omega, by decide⟩ (v1) dX6_readTreaty_46 ?_
  refine PW.iaddN dX6_readTreaty_47 ?_
  refine PW.dup2 rfl rfl dX6_readTreaty_48 ?_
  refine PW.aI hS.1 (by decide) rfl (by exact rfl) ⟨by omega, by decide⟩ (w1) dX6_readTreaty_49 ?_
  refine PW.iconst (v := nI 1) (by decide) dX6_readTreaty_50 ?_
  refine PW.aload_n rfl rfl dX6_readTreaty_51 ?_
  refine PW.gR hS.1 (by decide) rfl fX6_50 dX6_readTreaty_52 ?_
  refine PW.iconst (v := nI 2) (by decide) dX6_readTreaty_55 ?_
  refine PW.aI hS.1 (by decide) rfl (by exact rfl) ⟨by omega, by decide⟩ (v2) dX6_readTreaty_56 ?_
  refine PW.ishl1 (by omega) dX6_readTreaty_57 ?_
  refine PW.iorN dX6_readTreaty_58 ?_
  refine PW.uI hS (by decide) rfl (by exact rfl) ⟨by omega, by decide⟩ dX6_readTreaty_59 (fun hS hw59 => ?_)
  refine PW.aload_n rfl rfl dX6_readTreaty_60 ?_
  refine PW.gR hS.1 (by decide) rfl fX6_44 dX6_readTreaty_61 ?_
  refine PW.bipush (v := nI 6) (by decide) dX6_readTreaty_64 ?_
  refine PW.aload_n rfl rfl dX6_readTreaty_66 ?_
  refine PW.gR hS.1 (by decide) rfl fX6_50 dX6_readTreaty_67 ?_
  refine PW.iconst (v := nI 1) (by decide) dX6_readTreaty_70 ?_
  refine PW.aI hS.1 (by decide) rfl (by exact rfl) ⟨by omega, by decide⟩ ((iv_wI_ne (by decide)).trans v1) dX6_readTreaty_71 ?_
  refine PW.imulN dX6_readTreaty_72 ?_
  refine PW.aload_n rfl rfl dX6_readTreaty_73 ?_
  refine PW.gR hS.1 (by decide) rfl fX6_50 dX6_readTreaty_74 ?_
  refine PW.iconst (v := nI 0) (by decide) dX6_readTreaty_77 ?_
  refine PW.aI hS.1 (by decide) rfl (by exact rfl) ⟨by omega, by decide⟩ ((iv_wI_ne (by decide)).trans v0) dX6_readTreaty_78 ?_
  refine PW.iaddN dX6_readTreaty_79 ?_
  refine PW.dup2 rfl rfl dX6_readTreaty_80 ?_
  refine PW.aI hS.1 (by decide) rfl (by exact rfl) ⟨by omega, by decide⟩ ((hw59 _).trans ((if_neg (by omega)).trans w2)) dX6_readTreaty_81 ?_
  refine PW.iconst (v := nI 1) (by decide) dX6_readTreaty_82 ?_
  refine PW.aload_n rfl rfl dX6_readTreaty_83 ?_
  refine PW.gR hS.1 (by decide) rfl fX6_50 dX6_readTreaty_84 ?_
  refine PW.iconst (v := nI 2) (by decide) dX6_readTreaty_87 ?_
  refine PW.aI hS.1 (by decide) rfl (by exact rfl) ⟨by omega, by decide⟩ ((iv_wI_ne (by decide)).trans v2) dX6_readTreaty_88 ?_
  refine PW.ishl1 (by omega) dX6_readTreaty_89 ?_
  refine PW.iorN dX6_readTreaty_90 ?_
  refine PW.uI hS (by decide) rfl (by exact rfl) ⟨by omega, by decide⟩ dX6_readTreaty_91 (fun hS hw91 => ?_)
  refine PW.aload_n rfl rfl dX6_readTreaty_92 ?_
  refine PW.dup rfl dX6_readTreaty_93 ?_
  refine PW.gI hS.1 (by decide) rfl (fi_wI.trans (fi_wI.trans hM1.2.2.1)) fX6_131 dX6_readTreaty_94 ?_
  refine PW.iconst (v := nI 1) (by decide) dX6_readTreaty_97 ?_
  refine PW.iaddN dX6_readTreaty_98 ?_
  refine PW.tI hS (by decide) rfl pX6_131 dX6_readTreaty_99 (fun hS hw99 => ?_)
  skip
  refine PW.iconst (v := nI 1) (by decide) dX6_readTreaty_102 ?_
  refine PW.zret rfl (by first | exact bI_nar _ | rfl) (Nat.le_refl _) (Nat.le_refl _) dX6_readTreaty_103 ?_
  refine RdQ.ok hrd hS (((hR.mk.wI (by decide)).wI (by decide)).wF (by decide)) ((fi_wF_ne (Or.inr (by decide))).trans (fi_wI.trans (fi_wI.trans a15))) ?_
  obtain ⟨x1, x2, x3, x4, x5, x6⟩ := hM1
  refine ⟨(fi_wF_ne (Or.inr (by decide))).trans (fi_wI.trans (fi_wI.trans x1)), (fi_wF_ne (Or.inr (by decide))).trans (fi_wI.trans (fi_wI.trans x2)), hw99, fun k hk => ?_, fun a c ha hc => ?_, fun u hu => ?_⟩
  · simp only [iv_wF, iv_wI_ne (show (105 : Nat) ≠ 107 by decide)]; exact x4 k hk
  · refine ⟨by rw [iv_wF, iv_wI_ne (by decide), iv_wI_ne (by decide)]; exact (x5 a c ha hc).1, ?_⟩
    have y := (x5 a c ha hc).2
    show _ = nI (if 6 * a + c = 6 * sd 1 + sd 0 then R 12 (6 * a + c) ||| 2 ^ sd 2 else if 6 * a + c = 6 * sd 0 + sd 1 then R 12 (6 * a + c) ||| 2 ^ sd 2 else R 12 (6 * a + c))
    rw [iv_wF, hw91, hw59]
    by_cases z1 : 6 * a + c = 6 * sd 1 + sd 0
    · rw [if_pos z1, if_pos z1, z1]
    · rw [if_neg z1, if_neg z1]
      by_cases z2 : 6 * a + c = 6 * sd 0 + sd 1
      · rw [if_pos z2, if_pos z2, z2]
      · rw [if_neg z2, if_neg z2]; exact y
  · simp only [iv_wF, iv_wI_ne (show (108 : Nat) ≠ 107 by decide)]; exact x6 u hu
end MRD
