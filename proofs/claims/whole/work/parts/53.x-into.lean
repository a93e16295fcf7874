/-! ===== the class reads a text; realm ===== -/
theorem itm_le {f : Nat → Nat} {n : Nat} {t : Nat × Nat × Nat × Nat} {R : DR} (hn : n ≤ 200) (hf : ∀ i, i < n → f i < 256) (hq : t.2.2.2 ≤ n) (hb : t.2.2.1 ≤ n) : (itm f n t R).2.1 ≤ n := by
  unfold itm
  have ha := arg_q (P := R 0 0) hn hf (frm t.1) 0 (fun _ => 0) t.2.2.2 hq
  have ht := tk_spec hn hf ha.2
  split
  · exact hb
  · split
    · split
      · exact ht.2.2.2.2.2.1
      · exact ht.2.2.2.1
    · exact ha.2
section XINTO
variable {b s : Nat} {sc : pw_E} {mem : pw_M} {R : DR} {e n : Nat} {f : Nat → Nat}
set_option maxHeartbeats 16000000 in
theorem x_readInto (hS : St b s sc mem) (he : e = 49 ∨ e = 72) (hT : TX mem n f) (hn : n ≤ 200) (hf : ∀ i, i < n → f i < 256) : Ret 5 0 0 mX4_readInto [.ref 10, .ref e] mem (fun v m1 => v = some (.int (if (rlm f n).1 = true then nI (rlm f n).2.1 else -10 - nI (rlm f n).2.1)) ∧ St b s sc m1 ∧ Ag (fun r => r ≠ 10 ∧ r ≠ 12 ∧ (r < e ∨ e + 20 < r)) mem m1 ∧ TX m1 n f ∧ ((rlm f n).1 = true → XD m1 e (rlm f n).2.2 ∧ Inv (rlm f n).2.2 ∧ (rlm f n).2.1 ≤ 200) ∧ ((rlm f n).1 = false → (rlm f n).2.1 ≤ 200)) := by
  refine Ret.of (by decide) (Nat.le_of_ble_eq_true rfl) fun l G => ?_
  show PW _ _ _ _ [(0, _), (1, _)] _ _ _
  refine PW.aload_n rfl rfl dX4_readInto_0 ?_
  refine PW.dV (ci := 2) (j := 0) _ hS.1 (by have := he; omega) (skR0 he) kX4_18 (x_forgetAll hS he) rfl rfl (Nat.le_of_ble_eq_true rfl) rfl ⟨by decide, by decide⟩ ⟨Nat.zero_le _, Nat.zero_le _⟩ dX4_readInto_1 (fun v m1 q => ?_)
  obtain ⟨rfl, hS, hA0, hX⟩ := q
  skip
  have hT0 := hT.ag hA0 (by omega) (by omega)
  refine PW.aload_n rfl rfl dX4_readInto_4 ?_
  refine PW.iconst (v := nI 0) (by decide) dX4_readInto_5 ?_
  refine PW.tI hS (by decide) rfl pX4_23 dX4_readInto_6 (fun hS hw6 => ?_)
  refine PW.iconst (v := nI 0) (by decide) dX4_readInto_9 ?_
  refine PW.istore_n rfl (by decide) dX4_readInto_10 (?_ : PW _ _ _ _ [(0, _), (1, _), (2, _)] _ _ _)
  refine PW.aload_n rfl rfl dX4_readInto_11 ?_
  refine PW.dV (ci := 4) (j := 0) _ hS.1 (by decide) rfl kX4_27 (x_readToken hS (hT0.wF (j := 3) (by decide)) hn hf (q := 0) (Nat.zero_le _) hw6) rfl rfl (Nat.le_of_ble_eq_true rfl) rfl ⟨by decide, by decide⟩ ⟨Nat.zero_le _, Nat.zero_le _⟩ dX4_readInto_12 (fun v m1 q => ?_)
  obtain ⟨rfl, hS, hA1, hT1, ht⟩ := q
  refine PW.iconst (v := nI 0) (by decide) dX4_readInto_15 ?_
  refine PW.istore_n rfl (by decide) dX4_readInto_16 (?_ : PW _ _ _ _ [(0, _), (1, _), (2, _), (3, _)] _ _ _)
  skip
  have hA2 : Ag (fun r => r ≠ 10 ∧ r ≠ 12 ∧ (r < e ∨ e + 20 < r)) mem m1 := ((hA0.mono (fun r h => h.2.2)).tr (Ag.wF (r := 10) (j := 3) (v := .int (nI 0)) (fun h => h.1 rfl))).tr (hA1.mono (fun r h => h.1))
  have hX2 := hX.ag (Ag.tr (Ag.wF (A := fun r => r ≠ 10) (r := 10) (j := 3) (v := .int (nI 0)) (fun h => h rfl)) hA1) (fun r h1 h2 => by omega)
  have hks := tk_spec hn hf (Nat.zero_le n)
  refine PW.loop (I := fun i m => ∃ (t : Nat × Nat × Nat × Nat) (R : DR), St b s sc m ∧ Ag (fun r => r ≠ 10 ∧ r ≠ 12 ∧ (r < e ∨ e + 20 < r)) mem m ∧ TX m n f ∧ XT m t ∧ t.2.2.2 ≤ n ∧ t.2.2.1 ≤ n ∧ t.1 ≤ 258 ∧ (t.1 ≠ 257 → i < t.2.2.2) ∧ XD m e R ∧ Inv R ∧ rdl f n (201 - i) t R i = rlm f n) (fun i _ => [(0, .ref 10), (1, .ref e), (2, .int (nI i)), (3, .int (nI i))]) (fun _ m => m) 200 (fun i m hi hJ ih => ?_) (fun m hJ => ?_) _ ⟨tk f n 0, R0, hS, hA2, hT1, ht, hks.2.2.2.2.2.1, hks.2.2.2.1, hks.1, hks.2.2.2.2.2.2.1, hX2, Inv_R0, rfl⟩
  · obtain ⟨t, R, hS, hA, hT, ht, hq, hbg, hk, hlt, hX, hI, hrd⟩ := hJ
    rw [show 201 - i = (200 - i) + 1 by omega, rdl] at hrd
    by_cases hk7 : t.1 = 257
    · rw [if_pos hk7] at hrd
      rw [← hrd]
      refine PW.iload_n rfl rfl dX4_readInto_17 ?_
      refine PW.sipush (v := nI 200) (by decide) dX4_readInto_18 ?_
      refine PW.icmp_geN 63 (by decide) (by first | omega | (split <;> omega)) (by first | omega | (split <;> omega)) dX4_readInto_21 (fun hc21 => by exfalso; omega) (fun hc21 => ?_)
      refine PW.aload_n rfl rfl dX4_readInto_24 ?_
      refine PW.gI hS.1 (by decide) rfl (ht.2.1) fX4_30 dX4_readInto_25 ?_
      refine PW.sipush (v := nI 257) (by decide) dX4_readInto_28 ?_
      refine PW.icmp_eqN 63 (by decide) (by first | omega | (split <;> omega)) (by first | omega | (split <;> omega)) dX4_readInto_31 (fun hc31 => ?_) (fun hc31 => by exfalso; omega)
      refine PW.iload_n rfl rfl dX4_readInto_63 ?_
      refine PW.iret rfl (Nat.le_refl _) (Nat.le_refl _) dX4_readInto_64 ?_
      exact ⟨rfl, hS, hA, hT, fun _ => ⟨hX, hI, by show i ≤ 200; omega⟩, fun h => Bool.noConfusion h⟩
    · rw [if_neg hk7] at hrd
      refine PW.iload_n rfl rfl dX4_readInto_17 ?_
      refine PW.sipush (v := nI 200) (by decide) dX4_readInto_18 ?_
      refine PW.icmp_geN 63 (by decide) (by first | omega | (split <;> omega)) (by first | omega | (split <;> omega)) dX4_readInto_21 (fun hc21 => by exfalso; omega) (fun hc21 => ?_)
      refine PW.aload_n rfl rfl dX4_readInto_24 ?_
      refine PW.gI hS.1 (by decide) rfl (ht.2.1) fX4_30 dX4_readInto_25 ?_
      refine PW.sipush (v := nI 257) (by decide) dX4_readInto_28 ?_
      refine PW.icmp_eqN 63 (by decide) (by first | omega | (split <;> omega)) (by first | omega | (split <;> omega)) dX4_readInto_31 (fun hc31 => by exfalso; omega) (fun hc31 => ?_)
      refine PW.aload_n rfl rfl dX4_readInto_34 ?_
      refine PW.aload_n rfl rfl dX4_readInto_35 ?_
      refine PW.dV (ci := 4) (j := 0) _ hS.1 (by decide) rfl kX4_33 (x_readItem hS he hX hI hT hn hf ht hq hk) rfl rfl (Nat.le_of_ble_eq_true rfl) rfl ⟨by decide, by decide⟩ ⟨Nat.zero_le _, Nat.zero_le _⟩ dX4_readInto_36 (fun v m1 q => ?_)
      obtain ⟨rfl, hS, hA3, hT3, hX3, hx3, hx5⟩ := q
      skip
      have hA4 := hA.tr hA3
      cases hit : (itm f n t R).1
      · rw [if_neg (by rw [hit]; decide)] at hrd
        rw [← hrd]
        have h5 := hx5 hit
        have hpl : (itm f n t R).2.1 ≤ 200 := Nat.le_trans (itm_le hn hf hq hbg) hn
        refine PW.if_neB 50 (by decide) dX4_readInto_39 (fun hc39 => by cases hc39) (fun hc39 => ?_)
        refine PW.bipush (v := -10) (by decide) dX4_readInto_42 ?_
        refine PW.aload_n rfl rfl dX4_readInto_44 ?_
        refine PW.gI hS.1 (by decide) rfl (h5) fX4_37 dX4_readInto_45 ?_
        refine PW.isub dX4_readInto_48 ?_
        refine PW.iret rfl (Nat.le_refl _) (Nat.le_refl _) dX4_readInto_49 ?_
        exact ⟨rfl, hS, hA4, hT3, fun h => Bool.noConfusion h, fun _ => hpl⟩
      · have h3 := hx3 hit
        rw [if_pos hit] at hrd
        obtain ⟨g1, g2⟩ := itm_q hn hf hq hit
        have hks := tk_spec hn hf g2
        have hlt := hlt hk7
        refine PW.if_neB 50 (by decide) dX4_readInto_39 (fun hc39 => ?_) (fun hc39 => by cases hc39)
        refine PW.iincN rfl (by decide) dX4_readInto_50 (?_ : PW _ _ _ _ [(0, _), (1, _), (2, _), (3, _)] _ _ _)
        refine PW.aload_n rfl rfl dX4_readInto_53 ?_
        refine PW.dV (ci := 4) (j := 0) _ hS.1 (by decide) rfl kX4_27 (x_readToken hS hT3 hn hf g2 h3) rfl rfl (Nat.le_of_ble_eq_true rfl) rfl ⟨by decide, by decide⟩ ⟨Nat.zero_le _, Nat.zero_le _⟩ dX4_readInto_54 (fun v m1 q => ?_)
        obtain ⟨rfl, hS, hA5, hT5, ht5⟩ := q
        refine PW.iincN rfl (by decide) dX4_readInto_57 (?_ : PW _ _ _ _ [(0, _), (1, _), (2, _), (3, _)] _ _ _)
        refine PW.goto 17 (by decide) dX4_readInto_60 ?_
        refine ih _ ⟨_, _, hS, hA4.tr (hA5.mono (fun r h => h.1)), hT5, ht5, hks.2.2.2.2.2.1, hks.2.2.2.1, hks.1, fun h => by have := hks.2.2.2.2.2.2.1 h; omega, hX3.ag hA5 (fun r h1 h2 => by omega), itm_inv hI hit, ?_⟩
        rw [show 201 - (i + 1) = 200 - i by omega]
        exact hrd
  · obtain ⟨t, R, hS, hA, hT, ht, hq, hbg, hk, hlt, hX, hI, hrd⟩ := hJ
    have hk7 : t.1 = 257 := Classical.byContradiction fun h => by have := hlt h; omega
    have hrd : rdl f n (0 + 1) t R 200 = rlm f n := hrd
    rw [rdl, if_pos hk7] at hrd
    rw [← hrd]
    refine PW.iload_n rfl rfl dX4_readInto_17 ?_
    refine PW.sipush (v := nI 200) (by decide) dX4_readInto_18 ?_
    refine PW.icmp_geN 63 (by decide) (by first | omega | (split <;> omega)) (by first | omega | (split <;> omega)) dX4_readInto_21 (fun hc21 => ?_) (fun hc21 => by (exfalso; omega))
    refine PW.iload_n rfl rfl dX4_readInto_63 ?_
    refine PW.iret rfl (Nat.le_refl _) (Nat.le_refl _) dX4_readInto_64 ?_
    exact ⟨rfl, hS, hA, hT, fun _ => ⟨hX, hI, by show 200 ≤ 200; decide⟩, fun h => Bool.noConfusion h⟩
end XINTO
section RLP
variable {l : Launch} {G : pw_G} {Y : pw_Y} {R : Room} {mc ms k n pc : Nat} {ls : List (Nat × Value)} {st : List Value} {mem : pw_M} {Q : Option Value → pw_M → Prop}
theorem PW.pR {idx j q : Nat} (hS : Sh mem) (hj : j = 9 ∨ j = 10) (hs : pw_FP Y.1.cls idx 5 j (.object "PocketLaws$Realm") false) (d : decode Y.2.1 pc = .ok (.putfield idx, 3)) (kk : PW (l, G, Y, R, mc, ms) k n (pc + 3) ls st (wF mem 9 j (.ref q)) Q) : PW (l, G, Y, R, mc, ms) k n pc ls (.ref q :: .ref 9 :: st) mem Q := by
  obtain ⟨vs, h1, h2⟩ := hS.obj (r := 9) (ci := 5) (j := j) (v := .null) (by decide) (by rcases hj with rfl | rfl <;> rfl)
  have hl : j < vs.length := by
    have h3 := (List.getElem?_eq_some_iff.mp h2).1
    simpa using h3
  have e : wF mem 9 j (.ref q) = mem.set 9 (.inr (5, vs.set j (.ref q))) := by simp only [wF, h1]
  rw [e] at kk
  exact PW.put hs (fun G => ⟨rfl, rfl⟩) (by decide) h1 hl d kk
end RLP
theorem St.swap {b s : Nat} {sc : pw_E} {mem : pw_M} (h : St b s sc mem) : St s b sc (wF (wF mem 9 9 (.ref s)) 9 10 (.ref b)) := by
  have h1 := h.1.shFR (j := 9) (Or.inl rfl) (.ref s)
  refine ⟨h1.shFR (j := 10) (Or.inr rfl) (.ref b), ?_, ?_, ?_, ?_⟩
  · rw [fv_wF_ne (Or.inr (by decide))]
    exact h.1.fv_wF (ci := 5) (u := .null) (by decide) rfl
  · exact h1.fv_wF (ci := 5) (u := .null) (by decide) rfl
  · rcases h.2.2.2.1 with ⟨h1, h2⟩ | ⟨h1, h2⟩
    · exact Or.inr ⟨h2, h1⟩
    · exact Or.inl ⟨h2, h1⟩
  · rw [wF_take (by decide), wF_take (by decide)]
    exact h.2.2.2.2
