/-! ===== realm: the class ===== -/
theorem neg_pl : ∀ k, k < 201 → ¬ (0 : Int32) ≤ -10 - nI k := by decide +kernel
section XRLM
variable {b s : Nat} {sc : pw_E} {mem : pw_M} {n : Nat} {f : Nat → Nat}
set_option maxHeartbeats 8000000 in
theorem x_realm_no (hS : St b s sc mem) (hT : TX mem n f) (hn : n ≤ 200) (hf : ∀ i, i < n → f i < 256) (hr : (rlm f n).1 = false) : Ret 6 0 0 mX5_realm [.ref 9] mem (fun v m1 => v = some (.int (-10 - nI (rlm f n).2.1)) ∧ St b s sc m1 ∧ Ag (fun r => r ≠ 10 ∧ r ≠ 12 ∧ (r < s ∨ s + 20 < r)) mem m1 ∧ TX m1 n f) := by
  have hcall := x_readInto hS hS.s hT hn hf
  rw [if_neg (show ¬ (rlm f n).1 = true by rw [hr]; decide)] at hcall
  refine Ret.of (by decide) (Nat.le_of_ble_eq_true rfl) fun l G => ?_
  show PW _ _ _ _ [(0, _)] _ _ _
  refine PW.aload_n rfl rfl dX5_realm_0 ?_
  refine PW.gR hS.1 (by decide) rfl fX5_10 dX5_realm_1 ?_
  refine PW.aload_n rfl rfl dX5_realm_4 ?_
  refine PW.gV hS.1 (by decide) rfl hS.2.2.1 fX5_62 dX5_realm_5 ?_
  refine PW.dV (ci := 4) (j := 0) _ hS.1 (by decide) rfl kX5_82 (hcall) rfl rfl (Nat.le_of_ble_eq_true rfl) rfl ⟨by decide, by decide⟩ ⟨Nat.zero_le _, Nat.zero_le _⟩ dX5_realm_8 (fun v m1 q => ?_)
  obtain ⟨rfl, hS, hA, hT1, hx, hpl⟩ := q
  refine PW.istore_n rfl (by decide) dX5_realm_11 (?_ : PW _ _ _ _ [(0, _), (1, _)] _ _ _)
  refine PW.iload_n rfl rfl dX5_realm_12 ?_
  refine PW.if_ge 18 (by decide) dX5_realm_13 (fun hc13 => by exact absurd hc13 (neg_pl _ (Nat.lt_succ_of_le (hpl hr)))) (fun hc13 => ?_)
  refine PW.iload_n rfl rfl dX5_realm_16 ?_
  refine PW.iret rfl (Nat.le_refl _) (Nat.le_refl _) dX5_realm_17 ?_
  exact ⟨rfl, hS, hA, hT1⟩
set_option maxHeartbeats 8000000 in
theorem x_realm_ok (hS : St b s sc mem) (hT : TX mem n f) (hn : n ≤ 200) (hf : ∀ i, i < n → f i < 256) (hr : (rlm f n).1 = true) : Ret 6 0 0 mX5_realm [.ref 9] mem (fun v m1 => v = some (.int (nI (rlm f n).2.1)) ∧ St s b sc m1 ∧ XD m1 s (rlm f n).2.2 ∧ XL m1 s (rlm f n).2.2 ∧ XN m1 13 ((rlm f n).2.2 1 0) ((rlm f n).2.2 16) 0 0 ∧ fi m1 15 1 = nI 0 ∧ fi m1 15 2 = fi mem 15 2 ∧ (∀ i, i < 2 → iv m1 42 i = nI 0) ∧ TX m1 0 f ∧ fl m1 9 11 = fl mem 9 11 ∧ Inv (rlm f n).2.2 ∧ Ag (fun r => 95 ≤ r) mem m1) := by
  have hcall := x_readInto hS hS.s hT hn hf
  rw [if_pos hr] at hcall
  generalize (rlm f n).2.1 = it at hcall ⊢
  refine Ret.of (by decide) (Nat.le_of_ble_eq_true rfl) fun l G => ?_
  show PW _ _ _ _ [(0, _)] _ _ _
  refine PW.aload_n rfl rfl dX5_realm_0 ?_
  refine PW.gR hS.1 (by decide) rfl fX5_10 dX5_realm_1 ?_
  refine PW.aload_n rfl rfl dX5_realm_4 ?_
  refine PW.gV hS.1 (by decide) rfl hS.2.2.1 fX5_62 dX5_realm_5 ?_
  refine PW.dV (ci := 4) (j := 0) _ hS.1 (by decide) rfl kX5_82 (hcall) rfl rfl (Nat.le_of_ble_eq_true rfl) rfl ⟨by decide, by decide⟩ ⟨Nat.zero_le _, Nat.zero_le _⟩ dX5_realm_8 (fun v m1 q => ?_)
  obtain ⟨rfl, hS, hA, hT1, hx, -⟩ := q
  skip
  obtain ⟨hX, hI, hit⟩ := hx hr
  generalize (rlm f n).2.2 = R1 at hX hI hx ⊢
  refine PW.istore_n rfl (by decide) dX5_realm_11 (?_ : PW _ _ _ _ [(0, _), (1, _)] _ _ _)
  refine PW.iload_n rfl rfl dX5_realm_12 ?_
  refine PW.if_ge 18 (by decide) dX5_realm_13 (fun hc13 => ?_) (fun hc13 => by exact absurd (Int32.not_lt.mp (nI_pos (by omega))) hc13)
  skip
  refine PW.aload_n rfl rfl dX5_realm_18 ?_
  refine PW.gV hS.1 (by decide) rfl hS.2.1 fX5_58 dX5_realm_19 ?_
  refine PW.astore_n rfl (by decide) dX5_realm_22 (?_ : PW _ _ _ _ [(0, _), (1, _), (2, _)] _ _ _)
  refine PW.aload_n rfl rfl dX5_realm_23 ?_
  refine PW.aload_n rfl rfl dX5_realm_24 ?_
  refine PW.gV hS.1 (by decide) rfl hS.2.2.1 fX5_62 dX5_realm_25 ?_
  refine PW.pR hS.1 (Or.inl rfl) pX5_58 dX5_realm_28 ?_
  refine PW.aload_n rfl rfl dX5_realm_31 ?_
  refine PW.aload_n rfl rfl dX5_realm_32 ?_
  refine PW.pR (hS.1.shFR (Or.inl rfl) _) (Or.inr rfl) pX5_62 dX5_realm_33 ?_
  have hS := hS.swap
  have hs := hS.b
  have hA2 : Ag (fun r => r ≠ 9) m1 (wF (wF m1 9 9 (.ref s)) 9 10 (.ref b)) := (Ag.wF (fun h => h rfl)).tr (Ag.wF (fun h => h rfl))
  have hl2 : fl (wF (wF m1 9 9 (.ref s)) 9 10 (.ref b)) 9 11 = fl m1 9 11 := by rw [fl_wF_ne (Or.inr (by decide)), fl_wF_ne (Or.inr (by decide))]
  generalize wF (wF m1 9 9 (.ref s)) 9 10 (.ref b) = m2 at hS hA2 hl2 ⊢
  have hl0 : fl m1 9 11 = fl mem 9 11 := hA.fl ⟨by decide, by decide, by omega⟩ 11
  have h15 : fi m1 15 2 = fi mem 15 2 := hA.fi ⟨by decide, by decide, by omega⟩ 2
  have hX2 := hX.ag hA2 (fun r h1 h2 => by omega)
  have hT2 := hT1.ag hA2 (by decide) (by decide)
  have h152 : fi m2 15 2 = fi m1 15 2 := hA2.fi (by decide) 2
  have hB2 : Ag (fun r => 95 ≤ r) mem m2 := (hA.mono (fun r (h : 95 ≤ r) => ⟨by omega, by omega, by omega⟩)).tr (hA2.mono (fun r (h : 95 ≤ r) => by omega))
  refine PW.aload_n rfl rfl dX5_realm_36 ?_
  refine PW.gV hS.1 (by decide) rfl hS.2.1 fX5_58 dX5_realm_37 ?_
  refine PW.dV (ci := 2) (j := 0) _ hS.1 (by have := hS.b; omega) (skR0 hS.b) kX5_68 (x_settleLaws hS hS.b hX2 hI.1) rfl rfl (Nat.le_of_ble_eq_true rfl) rfl ⟨by decide, by decide⟩ ⟨Nat.zero_le _, Nat.zero_le _⟩ dX5_realm_40 (fun v m1 q => ?_)
  obtain ⟨rfl, hS, hA3, hL3⟩ := q
  skip
  have hX3 := hX2.ag hA3 (fun r h1 h2 => by omega)
  have hT3 := hT2.ag hA3 (by omega) (by omega)
  have h153 := (hA3.fi (r := 15) (by omega) 2).trans h152
  have hl3 := (hA3.fl (r := 9) (by omega) 11).trans hl2
  have hB3 : Ag (fun r => 95 ≤ r) mem m1 := hB2.tr (hA3.mono (fun r (h : 95 ≤ r) => by omega))
  refine PW.aload_n rfl rfl dX5_realm_43 ?_
  refine PW.gR hS.1 (by decide) rfl fX5_19 dX5_realm_44 ?_
  refine PW.aload_n rfl rfl dX5_realm_47 ?_
  refine PW.gV hS.1 (by decide) rfl hS.2.1 fX5_58 dX5_realm_48 ?_
  refine PW.dV (ci := 0) (j := 0) _ hS.1 (by decide) rfl kX5_86 (x_begin hS hS.b) rfl rfl (Nat.le_of_ble_eq_true rfl) rfl ⟨by decide, by decide⟩ ⟨Nat.zero_le _, Nat.zero_le _⟩ dX5_realm_51 (fun v m1 q => ?_)
  obtain ⟨rfl, hS, hA4, hv4, hp4, hd4⟩ := q
  skip
  have hX4 := hX3.ag hA4 (fun r h1 h2 => by omega)
  have hL4 := hL3.ag hA4 (by omega) (by omega)
  have hT4 := hT3.ag hA4 (by decide) (by decide)
  have h154 := (hA4.fi (r := 15) (by decide) 2).trans h153
  have hl4 := (hA4.fl (r := 9) (by decide) 11).trans hl3
  have hB4 : Ag (fun r => 95 ≤ r) mem m1 := hB3.tr (hA4.mono (fun r (h : 95 ≤ r) => ⟨by omega, by omega⟩))
  have hN4 : XN m1 13 (R1 1 0) (R1 16) 0 0 := ⟨fun t ht => (hv4 t (by have := hI.1.2.1; omega)).trans (hX3.2.2.2.2.2.2 t ht).2.2.2, hp4, hd4⟩
  refine PW.aload_n rfl rfl dX5_realm_54 ?_
  refine PW.gR hS.1 (by decide) rfl fX5_26 dX5_realm_55 ?_
  refine PW.iconst (v := nI 0) (by decide) dX5_realm_58 ?_
  refine PW.tI hS (by decide) rfl pX5_90 dX5_realm_59 (fun hS hw59 => ?_)
  refine PW.iconst (v := nI 0) (by decide) dX5_realm_62 ?_
  refine PW.istore_n rfl (by decide) dX5_realm_63 (?_ : PW _ _ _ _ [(0, _), (1, _), (2, _), (3, _)] _ _ _)
  skip
  refine PW.loop (I := fun j m => St s b sc m ∧ Ag (fun r => r ≠ 15 ∧ r ≠ 42) m1 m ∧ fi m 15 1 = nI 0 ∧ fi m 15 2 = fi m1 15 2 ∧ ∀ i, i < j → iv m 42 i = nI 0) (fun j _ => [(0, .ref 9), (1, .int (nI it)), (2, .ref b), (3, .int (nI j))]) (fun _ m => m) 2 (fun j m hj hJ ih => ?_) (fun m hJ => ?_) _ ⟨hS, Ag.wF (fun h => h.1 rfl), hw59, fi_wF_ne (Or.inr (by decide)), fun i hi => absurd hi (Nat.not_lt_zero _)⟩
  · obtain ⟨hS, hA5, h1, h2, hv⟩ := hJ
    refine PW.iload_n rfl rfl dX5_realm_64 ?_
    refine PW.iconst (v := nI 2) (by decide) dX5_realm_65 ?_
    refine PW.icmp_geN 82 (by decide) (by first | omega | (split <;> omega)) (by first | omega | (split <;> omega)) dX5_realm_66 (fun hc66 => by (exfalso; omega)) (fun hc66 => ?_)
    refine PW.aload_n rfl rfl dX5_realm_69 ?_
    refine PW.gR hS.1 (by decide) rfl fX5_34 dX5_realm_70 ?_
    refine PW.iload_n rfl rfl dX5_realm_73 ?_
    refine PW.iconst (v := nI 0) (by decide) dX5_realm_74 ?_
    refine PW.uZ hS (by decide) rfl (by exact rfl) ⟨by omega, by decide⟩ (by first | exact bI_vp _ | rfl) dX5_realm_75 (fun hS hw75 => ?_)
    refine PW.iincN rfl (by decide) dX5_realm_76 (?_ : PW _ _ _ _ [(0, _), (1, _), (2, _), (3, _)] _ _ _)
    refine PW.goto 64 (by decide) dX5_realm_79 ?_
    refine ih _ ⟨hS, hA5.tr (Ag.wI (fun h => h.2 rfl)), fi_wI.trans h1, fi_wI.trans h2, fun i hi => ?_⟩
    rw [hw75]
    by_cases q : i = j
    · rw [if_pos q]
    · rw [if_neg q]; exact hv i (by omega)
  · obtain ⟨hS, hA5, h1, h2, hv⟩ := hJ
    have hA6 : Ag (fun r => r ≠ 10 ∧ r ≠ 15 ∧ r ≠ 42) m1 (wF m 10 2 (.int (nI 0))) := (hA5.mono (fun r h => h.2)).tr (Ag.wF (fun h => h.1 rfl))
    refine PW.iload_n rfl rfl dX5_realm_64 ?_
    refine PW.iconst (v := nI 2) (by decide) dX5_realm_65 ?_
    refine PW.icmp_geN 82 (by decide) (by first | omega | (split <;> omega)) (by first | omega | (split <;> omega)) dX5_realm_66 (fun hc66 => ?_) (fun hc66 => by (exfalso; omega))
    refine PW.aload_n rfl rfl dX5_realm_82 ?_
    refine PW.gR hS.1 (by decide) rfl fX5_10 dX5_realm_83 ?_
    refine PW.iconst (v := nI 0) (by decide) dX5_realm_86 ?_
    refine PW.tI hS (by decide) rfl pX5_75 dX5_realm_87 (fun hS hw87 => ?_)
    refine PW.iload_n rfl rfl dX5_realm_90 ?_
    refine PW.iret rfl (Nat.le_refl _) (Nat.le_refl _) dX5_realm_91 ?_
    exact ⟨rfl, hS, hX4.ag hA6 (fun r h1 h2 => by omega), hL4.ag hA6 (by omega) (by omega), hN4.ag hA6 (by decide) (by decide), (fi_wF_ne (Or.inl (by decide))).trans h1, (fi_wF_ne (Or.inl (by decide))).trans (h2.trans (h154.trans h15)), fun i hi => by rw [iv_wF]; exact hv i hi, ⟨hw87, fun i hi => absurd hi (Nat.not_lt_zero _)⟩, (hA6.fl (r := 9) (by decide) 11).trans (hl4.trans hl0), hI, hB4.tr (hA6.mono (fun r (h : 95 ≤ r) => ⟨by omega, by omega, by omega⟩))⟩
end XRLM
