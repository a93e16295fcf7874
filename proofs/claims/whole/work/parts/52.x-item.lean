/-! ===== the class reads an item, and a text ===== -/
theorem St.row {b s : Nat} {sc : pw_E} {mem : pw_M} (h : St b s sc mem) {r : Nat} {x : pw_E} (hr : r < 8) (hx : RO8[r]? = some x) : mem[r]? = some x := by
  rw [h.ro (by omega), List.getElem?_append_left (by show r < 8; exact hr), hx]
theorem frw_row {c : Nat} (h : frm c ≠ []) : ∃ g, RO8[frw c]? = some (.inl (0, (frm c).length, .inl g)) ∧ (∀ i, i < (frm c).length → g i = nI ((frm c).getD i 0)) ∧ 2 ≤ (frm c).length ∧ (frm c).length ≤ 4 ∧ frw c < 8 ∧ (∀ i, i < (frm c).length → (frm c).getD i 0 < 8) ∧ (frm c).getD 0 0 ≠ 7 := by
  rcases frm_cases h with rfl | rfl | rfl | rfl | rfl | rfl | rfl
  · exact ⟨ro [0, 1, 2, 5], rfl, by decide, by decide, by decide, by decide, by decide, by decide⟩
  · exact ⟨ro [6, 7], rfl, by decide, by decide, by decide, by decide, by decide, by decide⟩
  · exact ⟨ro [6, 7], rfl, by decide, by decide, by decide, by decide, by decide, by decide⟩
  · exact ⟨ro [6, 7], rfl, by decide, by decide, by decide, by decide, by decide, by decide⟩
  · exact ⟨ro [6, 7, 4], rfl, by decide, by decide, by decide, by decide, by decide, by decide⟩
  · exact ⟨ro [6, 7, 3], rfl, by decide, by decide, by decide, by decide, by decide, by decide⟩
  · exact ⟨ro [3, 4, 2, 6], rfl, by decide, by decide, by decide, by decide, by decide, by decide⟩
theorem frw_5 {c : Nat} (h : frm c = []) : frw c = 5 := by
  obtain ⟨h1, h2, h3, h4, h5, h6, h7⟩ := frm_no h
  unfold frw
  rw [if_neg h1, if_neg h2, if_neg h3, if_neg h4, if_neg h5, if_neg h6, if_neg h7]
theorem drop_at {l : List Nat} {i : Nat} (h : i < l.length) : l.drop i = l.getD i 0 :: l.drop (i + 1) := by
  rw [List.drop_eq_getElem_cons h]
  simp [List.getD, h]
section ITM
variable {f : Nat → Nat} {n : Nat} {t : Nat × Nat × Nat × Nat} {R : DR}
theorem itm_tt (h : (itm f n t R).1 = true) : frm t.1 ≠ [] ∧ rom t.1 R = true ∧ (arg f n (R 0 0) (frm t.1) 0 (fun _ => 0) t.2.2.2).1 = true ∧ itm f n t R = (true, (tk f n (arg f n (R 0 0) (frm t.1) 0 (fun _ => 0) t.2.2.2).2.1).2.2.2, tell t.1 R (arg f n (R 0 0) (frm t.1) 0 (fun _ => 0) t.2.2.2).2.2) ∧ (tk f n (arg f n (R 0 0) (frm t.1) 0 (fun _ => 0) t.2.2.2).2.1).1 = 59 := by
  unfold itm at h ⊢
  by_cases h1 : frm t.1 = [] ∨ rom t.1 R = false
  · rw [if_pos h1] at h; cases h
  · rw [if_neg h1] at h ⊢
    by_cases h2 : (arg f n (R 0 0) (frm t.1) 0 (fun _ => 0) t.2.2.2).1 = true
    · rw [if_pos h2] at h ⊢
      by_cases h3 : (tk f n (arg f n (R 0 0) (frm t.1) 0 (fun _ => 0) t.2.2.2).2.1).1 = 59
      · rw [if_pos h3]
        refine ⟨fun q => h1 (Or.inl q), ?_, h2, rfl, h3⟩
        cases hr : rom t.1 R
        · exact absurd (Or.inr hr) h1
        · rfl
      · rw [if_neg h3] at h; cases h
    · rw [if_neg h2] at h; cases h
theorem itm_inv (hI : Inv R) (h : (itm f n t R).1 = true) : Inv (itm f n t R).2.2 := by
  obtain ⟨h1, h2, h3, h4, -⟩ := itm_tt h
  rw [h4]
  exact hI.tell h1 h2 (fun j hj => by have := (arg_ok _ _ _ _ h3).2 j hj; rw [Nat.zero_add] at this; exact this)
theorem itm_q (hn : n ≤ 200) (hf : ∀ i, i < n → f i < 256) (hq : t.2.2.2 ≤ n) (h : (itm f n t R).1 = true) : t.2.2.2 < (itm f n t R).2.1 ∧ (itm f n t R).2.1 ≤ n := by
  obtain ⟨h1, h2, h3, h4, h5⟩ := itm_tt h
  rw [h4]
  have ha := arg_q (P := R 0 0) hn hf (frm t.1) 0 (fun _ => 0) t.2.2.2 hq
  have ht := tk_spec hn hf ha.2
  have := ht.2.2.2.2.2.2.1 (by rw [h5]; decide)
  exact ⟨by show t.2.2.2 < (tk f n _).2.2.2; omega, ht.2.2.2.2.2.1⟩
end ITM
section XITM
variable {b s : Nat} {sc : pw_E} {mem : pw_M} {R : DR} {e n : Nat} {f : Nat → Nat} {t : Nat × Nat × Nat × Nat}
theorem TX.ag10 {mem m : pw_M} {L : Nat} {f : Nat → Nat} {A : Nat → Prop} (h : TX mem L f) (hA : Ag A mem m) (h1 : A 11) (h2 : fi m 10 2 = fi mem 10 2) : TX m L f := ⟨h2.trans h.1, fun i hi => by rw [hA.iv h1]; exact h.2 i hi⟩
set_option maxHeartbeats 16000000 in
theorem x_readItem (hS : St b s sc mem) (he : e = 49 ∨ e = 72) (hX : XD mem e R) (hI : Inv R) (hT : TX mem n f) (hn : n ≤ 200) (hf : ∀ i, i < n → f i < 256) (ht : XT mem t) (hq : t.2.2.2 ≤ n) (hk : t.1 ≤ 258) : Ret 4 0 0 mX4_readItem [.ref 10, .ref e] mem (fun v m1 => v = some (.int (bI (itm f n t R).1)) ∧ St b s sc m1 ∧ Ag (fun r => r ≠ 10 ∧ r ≠ 12 ∧ (r < e ∨ e + 20 < r)) mem m1 ∧ TX m1 n f ∧ XD m1 e (itm f n t R).2.2 ∧ ((itm f n t R).1 = true → fi m1 10 3 = nI (itm f n t R).2.1) ∧ ((itm f n t R).1 = false → fi m1 10 5 = nI (itm f n t R).2.1)) := by
  have h6 := hI.1.1
  by_cases hfm : frm t.1 = []
  · have e5 := frw_5 hfm
    have hr8 : frw t.1 < 8 := by omega
    have hrow : RO8[frw t.1]? = some (.inl (0, 0, .inl (ro []))) := by rw [e5]; rfl
    have ei : itm f n t R = (false, t.2.2.1, R) := if_pos (Or.inl hfm)
    rw [ei]
    refine Ret.of (by decide) (Nat.le_of_ble_eq_true rfl) fun l G => ?_
    show PW _ _ _ _ [(0, _), (1, _)] _ _ _
    refine PW.aload_n rfl rfl dX4_readItem_0 ?_
    refine PW.gI hS.1 (by decide) rfl (ht.2.1) fX4_30 dX4_readItem_1 ?_
    refine PW.istore_n rfl (by decide) dX4_readItem_4 (?_ : PW _ _ _ _ [(0, _), (1, _), (2, _)] _ _ _)
    refine PW.iload_n rfl rfl dX4_readItem_5 ?_
    refine PW.cS _ kX4_40 (x_formOf hk mem) rfl rfl (Nat.le_of_ble_eq_true rfl) ⟨by decide, by decide⟩ ⟨Nat.zero_le _, Nat.zero_le _⟩ dX4_readItem_6 ?_
    refine PW.astore_n rfl (by decide) dX4_readItem_9 (?_ : PW _ _ _ _ [(0, _), (1, _), (2, _), (3, _)] _ _ _)
    refine PW.aload_n rfl rfl dX4_readItem_10 ?_
    refine PW.alen0 ((hS.row hr8 hrow)) (by first | decide | omega) dX4_readItem_11 ?_
    refine PW.if_eqN 23 (by decide) (by first | omega | (split <;> omega)) dX4_readItem_12 (fun hc12 => ?_) (fun hc12 => by exfalso; omega)
    refine PW.iconst (v := nI 0) (by decide) dX4_readItem_23 ?_
    refine PW.zret rfl (by first | exact bI_nar _ | rfl) (Nat.le_refl _) (Nat.le_refl _) dX4_readItem_24 ?_
    exact ⟨rfl, hS, Ag.rf, hT, hX, fun h => Bool.noConfusion h, fun _ => ht.2.2.1⟩
  obtain ⟨g, hrow, hg, hl2, hl4, hr8, hl8, hl7⟩ := frw_row hfm
  cases hrm : rom t.1 R
  · have ei : itm f n t R = (false, t.2.2.1, R) := if_pos (Or.inr hrm)
    rw [ei]
    refine Ret.of (by decide) (Nat.le_of_ble_eq_true rfl) fun l G => ?_
    show PW _ _ _ _ [(0, _), (1, _)] _ _ _
    refine PW.aload_n rfl rfl dX4_readItem_0 ?_
    refine PW.gI hS.1 (by decide) rfl (ht.2.1) fX4_30 dX4_readItem_1 ?_
    refine PW.istore_n rfl (by decide) dX4_readItem_4 (?_ : PW _ _ _ _ [(0, _), (1, _), (2, _)] _ _ _)
    refine PW.iload_n rfl rfl dX4_readItem_5 ?_
    refine PW.cS _ kX4_40 (x_formOf hk mem) rfl rfl (Nat.le_of_ble_eq_true rfl) ⟨by decide, by decide⟩ ⟨Nat.zero_le _, Nat.zero_le _⟩ dX4_readItem_6 ?_
    refine PW.astore_n rfl (by decide) dX4_readItem_9 (?_ : PW _ _ _ _ [(0, _), (1, _), (2, _), (3, _)] _ _ _)
    refine PW.aload_n rfl rfl dX4_readItem_10 ?_
    refine PW.alen0 ((hS.row hr8 hrow)) (by first | decide | omega) dX4_readItem_11 ?_
    refine PW.if_eqN 23 (by decide) (by first | omega | (split <;> omega)) dX4_readItem_12 (fun hc12 => by (first | (exfalso; omega) | (rw [hrm] at hc12; cases hc12))) (fun hc12 => ?_)
    refine PW.aload_n rfl rfl dX4_readItem_15 ?_
    refine PW.iload_n rfl rfl dX4_readItem_16 ?_
    refine PW.cV (ci := 2) (j := 0) _ hS.1 (by have := he; omega) (skR0 he) kX4_44 (x_hasRoomFor hS he hX hI.1 hfm) rfl rfl (Nat.le_of_ble_eq_true rfl) rfl ⟨by decide, by decide⟩ ⟨Nat.zero_le _, Nat.zero_le _⟩ dX4_readItem_17 ?_
    refine PW.if_neB 25 (by decide) dX4_readItem_20 (fun hc20 => by (first | (exfalso; omega) | (rw [hrm] at hc20; cases hc20))) (fun hc20 => ?_)
    refine PW.iconst (v := nI 0) (by decide) dX4_readItem_23 ?_
    refine PW.zret rfl (by first | exact bI_nar _ | rfl) (Nat.le_refl _) (Nat.le_refl _) dX4_readItem_24 ?_
    exact ⟨rfl, hS, Ag.rf, hT, hX, fun h => Bool.noConfusion h, fun _ => ht.2.2.1⟩
  have ei : itm f n t R = if (arg f n (R 0 0) (frm t.1) 0 (fun _ => 0) t.2.2.2).1 = true then (if (tk f n (arg f n (R 0 0) (frm t.1) 0 (fun _ => 0) t.2.2.2).2.1).1 = 59 then (true, (tk f n (arg f n (R 0 0) (frm t.1) 0 (fun _ => 0) t.2.2.2).2.1).2.2.2, tell t.1 R (arg f n (R 0 0) (frm t.1) 0 (fun _ => 0) t.2.2.2).2.2) else (false, (tk f n (arg f n (R 0 0) (frm t.1) 0 (fun _ => 0) t.2.2.2).2.1).2.2.1, R)) else (false, (arg f n (R 0 0) (frm t.1) 0 (fun _ => 0) t.2.2.2).2.1, R) := if_neg (fun h => h.elim hfm (fun q => by rw [hrm] at q; cases q))
  have hok := arg_ok (f := f) (n := n) (P := R 0 0) (frm t.1) 0 (fun _ => 0) t.2.2.2
  generalize hA0 : arg f n (R 0 0) (frm t.1) 0 (fun _ => 0) t.2.2.2 = A at ei hok
  refine Ret.of (by decide) (Nat.le_of_ble_eq_true rfl) fun l G => ?_
  show PW _ _ _ _ [(0, _), (1, _)] _ _ _
  refine PW.aload_n rfl rfl dX4_readItem_0 ?_
  refine PW.gI hS.1 (by decide) rfl (ht.2.1) fX4_30 dX4_readItem_1 ?_
  refine PW.istore_n rfl (by decide) dX4_readItem_4 (?_ : PW _ _ _ _ [(0, _), (1, _), (2, _)] _ _ _)
  refine PW.iload_n rfl rfl dX4_readItem_5 ?_
  refine PW.cS _ kX4_40 (x_formOf hk mem) rfl rfl (Nat.le_of_ble_eq_true rfl) ⟨by decide, by decide⟩ ⟨Nat.zero_le _, Nat.zero_le _⟩ dX4_readItem_6 ?_
  refine PW.astore_n rfl (by decide) dX4_readItem_9 (?_ : PW _ _ _ _ [(0, _), (1, _), (2, _), (3, _)] _ _ _)
  refine PW.aload_n rfl rfl dX4_readItem_10 ?_
  refine PW.alen0 ((hS.row hr8 hrow)) (by first | decide | omega) dX4_readItem_11 ?_
  refine PW.if_eqN 23 (by decide) (by first | omega | (split <;> omega)) dX4_readItem_12 (fun hc12 => by (first | (exfalso; omega) | (rw [hrm] at hc12; cases hc12))) (fun hc12 => ?_)
  refine PW.aload_n rfl rfl dX4_readItem_15 ?_
  refine PW.iload_n rfl rfl dX4_readItem_16 ?_
  refine PW.cV (ci := 2) (j := 0) _ hS.1 (by have := he; omega) (skR0 he) kX4_44 (x_hasRoomFor hS he hX hI.1 hfm) rfl rfl (Nat.le_of_ble_eq_true rfl) rfl ⟨by decide, by decide⟩ ⟨Nat.zero_le _, Nat.zero_le _⟩ dX4_readItem_17 ?_
  refine PW.if_neB 25 (by decide) dX4_readItem_20 (fun hc20 => ?_) (fun hc20 => by (first | (exfalso; omega) | (rw [hrm] at hc20; cases hc20)))
  refine PW.iconst (v := nI 0) (by decide) dX4_readItem_25 ?_
  refine PW.istore (by decide) dX4_readItem_26 (?_ : PW _ _ _ _ [(0, _), (1, _), (2, _), (3, _), (4, _)] _ _ _)
  skip
  refine PW.loop (I := fun i m => ∃ (sd : Nat → Nat) (q : Nat), St b s sc m ∧ Ag (fun r => r ≠ 10 ∧ r ≠ 12) mem m ∧ TX m n f ∧ fi m 10 3 = nI q ∧ q ≤ n ∧ (∀ j, j < i → iv m 12 j = nI (sd j) ∧ sd j < 100) ∧ arg f n (R 0 0) ((frm t.1).drop i) i sd q = A) (fun i _ => [(0, .ref 10), (1, .ref e), (2, .int (nI t.1)), (3, .ref (frw t.1)), (4, .int (nI i))]) (fun _ m => m) (frm t.1).length (fun i m hi hJ ih => ?_) (fun m hJ => ?_) _ ⟨fun _ => 0, t.2.2.2, hS, Ag.rf, hT, ht.1, hq, fun j hj => absurd hj (Nat.not_lt_zero _), hA0⟩
  · obtain ⟨sd, q, hS, hA, hT, h3, hq, hsd, ha⟩ := hJ
    have hX2 := hX.ag hA (fun r h1 h2 => by omega)
    have hks := tk_spec hn hf hq
    have hr8i := hl8 i hi
    rw [drop_at hi, arg] at ha
    refine PW.iload rfl dX4_readItem_28 ?_
    refine PW.aload_n rfl rfl dX4_readItem_30 ?_
    refine PW.alen0 ((hS.row hr8 hrow)) (by first | decide | omega) dX4_readItem_31 ?_
    refine PW.icmp_geN 93 (by decide) (by first | omega | (split <;> omega)) (by first | omega | (split <;> omega)) dX4_readItem_32 (fun hc32 => by (exfalso; omega)) (fun hc32 => ?_)
    refine PW.iload rfl dX4_readItem_35 ?_
    refine PW.aload_n rfl rfl dX4_readItem_37 ?_
    refine PW.gR hS.1 (by decide) rfl fX4_15 dX4_readItem_38 ?_
    refine PW.alen (hS.1.arr (by decide) rfl) (by decide) (fun _ => rfl) dX4_readItem_41 ?_
    refine PW.icmp_geN 93 (by decide) (by first | omega | (split <;> omega)) (by first | omega | (split <;> omega)) dX4_readItem_42 (fun hc42 => by (exfalso; omega)) (fun hc42 => ?_)
    refine PW.aload_n rfl rfl dX4_readItem_45 ?_
    refine PW.dV (ci := 4) (j := 0) _ hS.1 (by decide) rfl kX4_27 (x_readToken hS hT hn hf hq h3) rfl rfl (Nat.le_of_ble_eq_true rfl) rfl ⟨by decide, by decide⟩ ⟨Nat.zero_le _, Nat.zero_le _⟩ dX4_readItem_46 (fun v m1 q => ?_)
    obtain ⟨rfl, hS, hA1, hT1, hx3, hx4, hx5, hx6⟩ := q
    skip
    have hA2 : Ag (fun r => r ≠ 10 ∧ r ≠ 12) mem m1 := hA.tr (hA1.mono (fun r h => h.1))
    have hX3 := hX.ag hA2 (fun r h1 h2 => by omega)
    have h12 : ∀ j, iv m1 12 j = iv m 12 j := fun j => hA1.iv (by decide) j
    by_cases hk6 : (tk f n q).1 = 256
    · have hs0 : tset sd i (tk f n q).2.1 0 < 100 := by
        unfold tset
        by_cases h : 0 = i
        · rw [if_pos h]; omega
        · rw [if_neg h]; exact (hsd 0 (by omega)).2
      have h07 : (frm t.1).getD i 0 = 7 → iv m1 12 0 = nI (tset sd i (tk f n q).2.1 0) := fun h => by
        have : 0 ≠ i := fun z => hl7 (by rw [← z] at h; exact h)
        rw [h12, (hsd 0 (by omega)).1]
        unfold tset
        rw [if_neg this]
      have hmb := x_mayBe hS (P := R 0 0) (r := (frm t.1).getD i 0) (v := (tk f n q).2.1) hr8i h6 (by omega) hs0 (hx6 hk6) h07
      cases hmv : mbB (R 0 0) ((frm t.1).getD i 0) (tset sd i (tk f n q).2.1 0) (tk f n q).2.1
      · rw [if_neg (fun h => by rw [hmv] at h; exact absurd h.2 (by decide))] at ha
        rw [← ha] at ei
        have ei : itm f n t R = (false, (tk f n q).2.2.1, R) := ei
        rw [ei]
        refine PW.aload_n rfl rfl dX4_readItem_49 ?_
        refine PW.gI hS.1 (by decide) rfl (hx4) fX4_30 dX4_readItem_50 ?_
        refine PW.sipush (v := nI 256) (by decide) dX4_readItem_53 ?_
        refine PW.icmp_neN 74 (by decide) (by first | omega | (split <;> omega)) (by first | omega | (split <;> omega)) dX4_readItem_56 (fun hc56 => by (first | (exfalso; omega) | (rw [hmv] at hc56; cases hc56))) (fun hc56 => ?_)
        refine PW.aload_n rfl rfl dX4_readItem_59 ?_
        refine PW.aload_n rfl rfl dX4_readItem_60 ?_
        refine PW.iload rfl dX4_readItem_61 ?_
        refine PW.rd ((hS.row hr8 hrow)) (by exact rfl) ⟨by omega, by first | decide | omega⟩ (hg i hi) dX4_readItem_63 ?_
        refine PW.aload_n rfl rfl dX4_readItem_64 ?_
        refine PW.gI hS.1 (by have := he; omega) (skR0 he) (hX3.1) fX4_48 dX4_readItem_65 ?_
        refine PW.cV (ci := 4) (j := 0) _ hS.1 (by decide) rfl kX4_51 (hmb) rfl rfl (Nat.le_of_ble_eq_true rfl) rfl ⟨by decide, by decide⟩ ⟨Nat.zero_le _, Nat.zero_le _⟩ dX4_readItem_68 ?_
        refine PW.if_neB 76 (by decide) dX4_readItem_71 (fun hc71 => by (first | (exfalso; omega) | (rw [hmv] at hc71; cases hc71))) (fun hc71 => ?_)
        refine PW.iconst (v := nI 0) (by decide) dX4_readItem_74 ?_
        refine PW.zret rfl (by first | exact bI_nar _ | rfl) (Nat.le_refl _) (Nat.le_refl _) dX4_readItem_75 ?_
        exact ⟨rfl, hS, hA2.mono (fun r h => ⟨h.1, h.2.1⟩), hT1, hX3, fun h => Bool.noConfusion h, fun _ => hx5⟩
      · rw [if_pos ⟨hk6, hmv⟩] at ha
        refine PW.aload_n rfl rfl dX4_readItem_49 ?_
        refine PW.gI hS.1 (by decide) rfl (hx4) fX4_30 dX4_readItem_50 ?_
        refine PW.sipush (v := nI 256) (by decide) dX4_readItem_53 ?_
        refine PW.icmp_neN 74 (by decide) (by first | omega | (split <;> omega)) (by first | omega | (split <;> omega)) dX4_readItem_56 (fun hc56 => by (first | (exfalso; omega) | (rw [hmv] at hc56; cases hc56))) (fun hc56 => ?_)
        refine PW.aload_n rfl rfl dX4_readItem_59 ?_
        refine PW.aload_n rfl rfl dX4_readItem_60 ?_
        refine PW.iload rfl dX4_readItem_61 ?_
        refine PW.rd ((hS.row hr8 hrow)) (by exact rfl) ⟨by omega, by first | decide | omega⟩ (hg i hi) dX4_readItem_63 ?_
        refine PW.aload_n rfl rfl dX4_readItem_64 ?_
        refine PW.gI hS.1 (by have := he; omega) (skR0 he) (hX3.1) fX4_48 dX4_readItem_65 ?_
        refine PW.cV (ci := 4) (j := 0) _ hS.1 (by decide) rfl kX4_51 (hmb) rfl rfl (Nat.le_of_ble_eq_true rfl) rfl ⟨by decide, by decide⟩ ⟨Nat.zero_le _, Nat.zero_le _⟩ dX4_readItem_68 ?_
        refine PW.if_neB 76 (by decide) dX4_readItem_71 (fun hc71 => ?_) (fun hc71 => by (first | (exfalso; omega) | (rw [hmv] at hc71; cases hc71)))
        refine PW.aload_n rfl rfl dX4_readItem_76 ?_
        refine PW.gR hS.1 (by decide) rfl fX4_15 dX4_readItem_77 ?_
        refine PW.iload rfl dX4_readItem_80 ?_
        refine PW.aload_n rfl rfl dX4_readItem_82 ?_
        refine PW.gI hS.1 (by decide) rfl (hx6 hk6) fX4_55 dX4_readItem_83 ?_
        refine PW.uI hS (by decide) rfl (by exact rfl) ⟨by omega, by decide⟩ dX4_readItem_86 (fun hS hw86 => ?_)
        refine PW.iincN rfl (by decide) dX4_readItem_87 (?_ : PW _ _ _ _ [(0, _), (1, _), (2, _), (3, _), (4, _)] _ _ _)
        refine PW.goto 28 (by decide) dX4_readItem_90 ?_
        refine ih _ ⟨_, _, hS, hA2.tr (Ag.wI (fun h => h.2 rfl)), hT1.ag10 (Ag.wI (A := fun r => r ≠ 12) (fun h => h rfl)) (by decide) fi_wI, fi_wI.trans hx3, hks.2.2.2.2.2.1, fun j hj => ?_, ha⟩
        rw [hw86]
        unfold tset
        by_cases z : j = i
        · rw [if_pos z, if_pos z]; exact ⟨rfl, by omega⟩
        · rw [if_neg z, if_neg z, h12]; exact hsd j (by omega)
    · rw [if_neg (fun h => hk6 h.1)] at ha
      rw [← ha] at ei
      have ei : itm f n t R = (false, (tk f n q).2.2.1, R) := ei
      rw [ei]
      refine PW.aload_n rfl rfl dX4_readItem_49 ?_
      refine PW.gI hS.1 (by decide) rfl (hx4) fX4_30 dX4_readItem_50 ?_
      refine PW.sipush (v := nI 256) (by decide) dX4_readItem_53 ?_
      refine PW.icmp_neN 74 (by decide) (by first | omega | (split <;> omega)) (by first | omega | (split <;> omega)) dX4_readItem_56 (fun hc56 => ?_) (fun hc56 => by (first | (exfalso; omega) | (rw [hmv] at hc56; cases hc56)))
      refine PW.iconst (v := nI 0) (by decide) dX4_readItem_74 ?_
      refine PW.zret rfl (by first | exact bI_nar _ | rfl) (Nat.le_refl _) (Nat.le_refl _) dX4_readItem_75 ?_
      exact ⟨rfl, hS, hA2.mono (fun r h => ⟨h.1, h.2.1⟩), hT1, hX3, fun h => Bool.noConfusion h, fun _ => hx5⟩
  · obtain ⟨sd, q, hS, hA, hT, h3, hq, hsd, ha⟩ := hJ
    rw [List.drop_length, arg] at ha
    rw [← ha] at ei hok
    have ei : itm f n t R = if (tk f n q).1 = 59 then (true, (tk f n q).2.2.2, tell t.1 R sd) else (false, (tk f n q).2.2.1, R) := ei
    have hok : ∀ j, j < (frm t.1).length → mbB (R 0 0) ((frm t.1).getD j 0) (sd 0) (sd j) = true := fun j hj => by have := (hok rfl).2 j hj; rw [Nat.zero_add] at this; exact this
    have hks := tk_spec hn hf hq
    refine PW.iload rfl dX4_readItem_28 ?_
    refine PW.aload_n rfl rfl dX4_readItem_30 ?_
    refine PW.alen0 ((hS.row hr8 hrow)) (by first | decide | omega) dX4_readItem_31 ?_
    refine PW.icmp_geN 93 (by decide) (by first | omega | (split <;> omega)) (by first | omega | (split <;> omega)) dX4_readItem_32 (fun hc32 => ?_) (fun hc32 => by (first | (exfalso; omega) | (rw [hmv] at hc32; cases hc32)))
    refine PW.aload_n rfl rfl dX4_readItem_93 ?_
    refine PW.dV (ci := 4) (j := 0) _ hS.1 (by decide) rfl kX4_27 (x_readToken hS hT hn hf hq h3) rfl rfl (Nat.le_of_ble_eq_true rfl) rfl ⟨by decide, by decide⟩ ⟨Nat.zero_le _, Nat.zero_le _⟩ dX4_readItem_94 (fun v m1 q => ?_)
    obtain ⟨rfl, hS, hA1, hT1, hx3, hx4, hx5, hx6⟩ := q
    skip
    have hA2 : Ag (fun r => r ≠ 10 ∧ r ≠ 12) mem m1 := hA.tr (hA1.mono (fun r h => h.1))
    have hX3 := hX.ag hA2 (fun r h1 h2 => by omega)
    have h12 : ∀ j, iv m1 12 j = iv m 12 j := fun j => hA1.iv (by decide) j
    by_cases hk6 : (tk f n q).1 = 59
    · rw [if_pos hk6] at ei
      rw [ei]
      refine PW.aload_n rfl rfl dX4_readItem_97 ?_
      refine PW.gI hS.1 (by decide) rfl (hx4) fX4_30 dX4_readItem_98 ?_
      refine PW.bipush (v := nI 59) (by decide) dX4_readItem_101 ?_
      refine PW.icmp_eqN 108 (by decide) (by first | omega | (split <;> omega)) (by first | omega | (split <;> omega)) dX4_readItem_103 (fun hc103 => ?_) (fun hc103 => by (first | (exfalso; omega) | (rw [hmv] at hc103; cases hc103)))
      refine PW.aload_n rfl rfl dX4_readItem_108 ?_
      refine PW.iload_n rfl rfl dX4_readItem_109 ?_
      refine PW.aload_n rfl rfl dX4_readItem_110 ?_
      refine PW.gR hS.1 (by decide) rfl fX4_15 dX4_readItem_111 ?_
      refine PW.dV (ci := 2) (j := 0) _ hS.1 (by have := he; omega) (skR0 he) kX4_58 (x_tell hS he hX3 hI hfm hrm hok (fun j hj => (h12 j).trans (hsd j hj).1)) rfl rfl (Nat.le_of_ble_eq_true rfl) rfl ⟨by decide, by decide⟩ ⟨Nat.zero_le _, Nat.zero_le _⟩ dX4_readItem_114 (fun v m1 q => ?_)
      obtain ⟨rfl, hS, hA4, hX4⟩ := q
      refine PW.iconst (v := nI 1) (by decide) dX4_readItem_117 ?_
      refine PW.zret rfl (by first | exact bI_nar _ | rfl) (Nat.le_refl _) (Nat.le_refl _) dX4_readItem_118 ?_
      exact ⟨rfl, hS, (hA2.mono (fun r h => ⟨h.1, h.2.1⟩)).tr (hA4.mono (fun r h => h.2.2)), hT1.ag hA4 (by omega) (by omega), hX4, fun _ => (hA4.fi (r := 10) (by omega) 3).trans hx3, fun h => Bool.noConfusion h⟩
    · rw [if_neg hk6] at ei
      rw [ei]
      refine PW.aload_n rfl rfl dX4_readItem_97 ?_
      refine PW.gI hS.1 (by decide) rfl (hx4) fX4_30 dX4_readItem_98 ?_
      refine PW.bipush (v := nI 59) (by decide) dX4_readItem_101 ?_
      refine PW.icmp_eqN 108 (by decide) (by first | omega | (split <;> omega)) (by first | omega | (split <;> omega)) dX4_readItem_103 (fun hc103 => by (first | (exfalso; omega) | (rw [hmv] at hc103; cases hc103))) (fun hc103 => ?_)
      refine PW.iconst (v := nI 0) (by decide) dX4_readItem_106 ?_
      refine PW.zret rfl (by first | exact bI_nar _ | rfl) (Nat.le_refl _) (Nat.le_refl _) dX4_readItem_107 ?_
      exact ⟨rfl, hS, hA2.mono (fun r h => ⟨h.1, h.2.1⟩), hT1, hX3, fun h => Bool.noConfusion h, fun _ => hx5⟩
end XITM
