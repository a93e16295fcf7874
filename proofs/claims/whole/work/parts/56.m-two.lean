/-! ===== the model reads two pockets ===== -/
theorem arg_stop {f : Nat → Nat} {n P : Nat} : ∀ (l l2 : List Nat) (i : Nat) (sd : Nat → Nat) (q : Nat), (arg f n P l i sd q).1 = false → arg f n P (l ++ l2) i sd q = arg f n P l i sd q
  | [], l2, i, sd, q, h => by cases h
  | r :: l, l2, i, sd, q, h => by
    rw [arg] at h
    by_cases hc : (tk f n q).1 = 256 ∧ mbB P r (tset sd i (tk f n q).2.1 0) (tk f n q).2.1 = true
    · rw [if_pos hc] at h
      rw [List.cons_append, arg, if_pos hc, arg_stop l l2 (i + 1) _ _ h, arg, if_pos hc]
    · rw [List.cons_append, arg, if_neg hc, arg, if_neg hc]
theorem arg_67 {f : Nat → Nat} {n P q : Nat} (h : (arg f n P [6] 0 (fun _ => 0) q).1 = true) : ((arg f n P [6, 6] 0 (fun _ => 0) q).1 = false → (arg f n P [6, 7] 0 (fun _ => 0) q).1 = false ∧ (arg f n P [6, 7] 0 (fun _ => 0) q).2.1 = (arg f n P [6, 6] 0 (fun _ => 0) q).2.1) ∧ ((arg f n P [6, 6] 0 (fun _ => 0) q).1 = true → (arg f n P [6, 6] 0 (fun _ => 0) q).2.2 0 ≠ (arg f n P [6, 6] 0 (fun _ => 0) q).2.2 1 → arg f n P [6, 7] 0 (fun _ => 0) q = arg f n P [6, 6] 0 (fun _ => 0) q) ∧ ((arg f n P [6, 6] 0 (fun _ => 0) q).1 = true → (arg f n P [6, 6] 0 (fun _ => 0) q).2.2 0 = (arg f n P [6, 6] 0 (fun _ => 0) q).2.2 1 → (arg f n P [6, 7] 0 (fun _ => 0) q).1 = false ∧ (arg f n P [6, 7] 0 (fun _ => 0) q).2.1 = (tk f n (arg f n P [6] 0 (fun _ => 0) q).2.1).2.2.1) := by
  have h6 := arg_snoc (f := f) (n := n) (P := P) (r := 6) [6] 0 (fun _ => 0) q h
  have h7 := arg_snoc (f := f) (n := n) (P := P) (r := 7) [6] 0 (fun _ => 0) q h
  rw [show ([6] ++ [6] : List Nat) = [6, 6] from rfl, show 0 + [6].length = 1 from rfl] at h6
  rw [show ([6] ++ [7] : List Nat) = [6, 7] from rfl, show 0 + [6].length = 1 from rfl] at h7
  generalize arg f n P [6] 0 (fun _ => 0) q = A at h6 h7 ⊢
  rw [h6, h7]
  have e0 : tset A.2.2 1 (tk f n A.2.1).2.1 0 = A.2.2 0 := if_neg (by decide)
  have e1 : tset A.2.2 1 (tk f n A.2.1).2.1 1 = (tk f n A.2.1).2.1 := if_pos rfl
  rw [e0, show mbB P 6 (A.2.2 0) (tk f n A.2.1).2.1 = decide ((tk f n A.2.1).2.1 < P) from rfl, show mbB P 7 (A.2.2 0) (tk f n A.2.1).2.1 = decide ((tk f n A.2.1).2.1 < P ∧ (tk f n A.2.1).2.1 ≠ A.2.2 0) from rfl]
  by_cases hc : (tk f n A.2.1).1 = 256 ∧ decide ((tk f n A.2.1).2.1 < P) = true
  · rw [if_pos hc]
    refine ⟨fun z => Bool.noConfusion z, fun _ z => ?_, fun _ z => ?_⟩
    · have z : tset A.2.2 1 (tk f n A.2.1).2.1 0 ≠ tset A.2.2 1 (tk f n A.2.1).2.1 1 := z
      rw [e0, e1] at z
      rw [if_pos ⟨hc.1, decide_eq_true ⟨of_decide_eq_true hc.2, fun y => z y.symm⟩⟩]
    · have z : tset A.2.2 1 (tk f n A.2.1).2.1 0 = tset A.2.2 1 (tk f n A.2.1).2.1 1 := z
      rw [e0, e1] at z
      rw [if_neg (fun y => (of_decide_eq_true y.2).2 z.symm)]
      exact ⟨rfl, rfl⟩
  · rw [if_neg hc, if_neg (fun y => hc ⟨y.1, decide_eq_true (of_decide_eq_true y.2).1⟩)]
    exact ⟨fun _ => ⟨rfl, rfl⟩, fun z => Bool.noConfusion z, fun z => Bool.noConfusion z⟩
section MTWO
variable {b s : Nat} {sc : pw_E} {mem : pw_M} {R : DR} {n : Nat} {f : Nat → Nat}
set_option maxHeartbeats 8000000 in
theorem m_two (hS : St b s sc mem) (hX : TM mem n f) (hn : n ≤ 200) (hf : ∀ i, i < n → f i < 256) {P q : Nat} (hq : q ≤ n) (h15 : fi mem 95 15 = nI q) (h20 : fi mem 95 20 = nI P) (hP : P ≤ 6) : Ret 3 0 0 mX6_takesTwo [.ref 95] mem (fun v m1 => v = some (.int (bI (arg f n P [6, 7] 0 (fun _ => 0) q).1)) ∧ St b s sc m1 ∧ Rn mem m1 ∧ ((arg f n P [6, 7] 0 (fun _ => 0) q).1 = true → AS m1 f n P [6, 7] q) ∧ ((arg f n P [6, 7] 0 (fun _ => 0) q).1 = false → fi m1 95 18 = nI (arg f n P [6, 7] 0 (fun _ => 0) q).2.1)) := by
  have hA0 : AS mem f n P [] q := ⟨rfl, h15, fun j hj => absurd hj (Nat.not_lt_zero _)⟩
  have hc1 := m_take hS hX hn hf hq [] [6] 6 rfl (by decide) hA0 (lo := 0) (hi := nI P - nI 1) (by decide) (role_6 hP)
  refine Ret.of (by decide) (Nat.le_of_ble_eq_true rfl) fun l G => ?_
  show PW _ _ _ _ [(0, _)] _ _ _
  refine PW.aload_n rfl rfl dX6_takesTwo_0 ?_
  refine PW.iconst (v := nI 0) (by decide) dX6_takesTwo_1 ?_
  refine PW.iconst (v := nI 0) (by decide) dX6_takesTwo_2 ?_
  refine PW.aload_n rfl rfl dX6_takesTwo_3 ?_
  refine PW.gI hS.1 (by decide) rfl (h20) fX6_117 dX6_takesTwo_4 ?_
  refine PW.iconst (v := nI 1) (by decide) dX6_takesTwo_7 ?_
  refine PW.isub dX6_takesTwo_8 ?_
  refine PW.dV (ci := 6) (j := 0) _ hS.1 (by decide) rfl kX6_120 (hc1) rfl rfl (Nat.le_of_ble_eq_true rfl) rfl ⟨by decide, by decide⟩ ⟨Nat.zero_le _, Nat.zero_le _⟩ dX6_takesTwo_9 (fun v m1 q => ?_)
  obtain ⟨rfl, hS, hR1, hT1, hF1, -⟩ := q
  skip
  cases hb1 : (arg f n P [6] 0 (fun _ => 0) q).1
  · have e7 := arg_stop (f := f) (n := n) (P := P) [6] [7] 0 (fun _ => 0) q hb1
    have e7 : arg f n P [6, 7] 0 (fun _ => 0) q = arg f n P [6] 0 (fun _ => 0) q := e7
    refine PW.if_eqB 49 (by decide) dX6_takesTwo_12 (fun hc12 => ?_) (fun hc12 => by cases hc12)
    refine PW.iconst (v := nI 0) (by decide) dX6_takesTwo_49 ?_
    refine PW.zret rfl (by first | exact bI_nar _ | rfl) (Nat.le_refl _) (Nat.le_refl _) dX6_takesTwo_50 ?_
    exact ⟨by rw [e7, hb1]; rfl, hS, hR1, fun h => (by rw [e7, hb1] at h; cases h), fun _ => by rw [e7]; exact hF1 hb1⟩
  have hA1 := hT1 hb1
  have hX1 := hX.rn hR1
  have hc2 := m_take hS hX1 hn hf hq [6] [6, 6] 6 rfl (by decide) hA1 (lo := 0) (hi := nI P - nI 1) (by decide) (role_6 hP)
  obtain ⟨k1, k2, k3⟩ := arg_67 hb1
  refine PW.if_eqB 49 (by decide) dX6_takesTwo_12 (fun hc12 => by cases hc12) (fun hc12 => ?_)
  refine PW.aload_n rfl rfl dX6_takesTwo_15 ?_
  refine PW.iconst (v := nI 1) (by decide) dX6_takesTwo_16 ?_
  refine PW.iconst (v := nI 0) (by decide) dX6_takesTwo_17 ?_
  refine PW.aload_n rfl rfl dX6_takesTwo_18 ?_
  refine PW.gI hS.1 (by decide) rfl ((fi_fv (hR1.2 20 (by omega))).trans h20) fX6_117 dX6_takesTwo_19 ?_
  refine PW.iconst (v := nI 1) (by decide) dX6_takesTwo_22 ?_
  refine PW.isub dX6_takesTwo_23 ?_
  refine PW.dV (ci := 6) (j := 0) _ hS.1 (by decide) rfl kX6_120 (hc2) rfl rfl (Nat.le_of_ble_eq_true rfl) rfl ⟨by decide, by decide⟩ ⟨Nat.zero_le _, Nat.zero_le _⟩ dX6_takesTwo_24 (fun v m1 q => ?_)
  obtain ⟨rfl, hS, hR2, hT2, hF2, hG2⟩ := q
  skip
  cases hb2 : (arg f n P [6, 6] 0 (fun _ => 0) q).1
  · obtain ⟨z1, z2⟩ := k1 hb2
    refine PW.if_eqB 49 (by decide) dX6_takesTwo_27 (fun hc27 => ?_) (fun hc27 => by cases hc27)
    refine PW.iconst (v := nI 0) (by decide) dX6_takesTwo_49 ?_
    refine PW.zret rfl (by first | exact bI_nar _ | rfl) (Nat.le_refl _) (Nat.le_refl _) dX6_takesTwo_50 ?_
    exact ⟨by rw [z1]; rfl, hS, hR1.tr hR2, fun h => (by rw [z1] at h; cases h), fun _ => by rw [z2]; exact hF2 hb2⟩
  have hA2 := hT2 hb2
  have hok := (arg_ok (f := f) (n := n) (P := P) [6, 6] 0 (fun _ => 0) q hb2).2
  have o0 : decide ((arg f n P [6, 6] 0 (fun _ => 0) q).2.2 0 < P) = true := hok 0 (by decide)
  have o1 : decide ((arg f n P [6, 6] 0 (fun _ => 0) q).2.2 1 < P) = true := hok 1 (by decide)
  have o0 := of_decide_eq_true o0
  have o1 := of_decide_eq_true o1
  have v0 := hA2.2.2 0 (by decide)
  have v1 := hA2.2.2 1 (by decide)
  by_cases heq : (arg f n P [6, 6] 0 (fun _ => 0) q).2.2 0 = (arg f n P [6, 6] 0 (fun _ => 0) q).2.2 1
  · obtain ⟨z1, z2⟩ := k3 hb2 heq
    refine PW.if_eqB 49 (by decide) dX6_takesTwo_27 (fun hc27 => by (first | (exfalso; omega) | cases hc27)) (fun hc27 => ?_)
    refine PW.aload_n rfl rfl dX6_takesTwo_30 ?_
    refine PW.gR hS.1 (by decide) rfl fX6_50 dX6_takesTwo_31 ?_
    refine PW.iconst (v := nI 0) (by decide) dX6_takesTwo_34 ?_
    refine PW.aI hS.1 (by decide) rfl (by exact rfl) ⟨by omega, by decide⟩ (v0) dX6_takesTwo_35 ?_
    refine PW.aload_n rfl rfl dX6_takesTwo_36 ?_
    refine PW.gR hS.1 (by decide) rfl fX6_50 dX6_takesTwo_37 ?_
    refine PW.iconst (v := nI 1) (by decide) dX6_takesTwo_40 ?_
    refine PW.aI hS.1 (by decide) rfl (by exact rfl) ⟨by omega, by decide⟩ (v1) dX6_takesTwo_41 ?_
    refine PW.icmp_eqN 49 (by decide) (by first | omega | (split <;> omega)) (by first | omega | (split <;> omega)) dX6_takesTwo_42 (fun hc42 => ?_) (fun hc42 => by (first | (exfalso; omega) | cases hc42))
    refine PW.iconst (v := nI 0) (by decide) dX6_takesTwo_49 ?_
    refine PW.zret rfl (by first | exact bI_nar _ | rfl) (Nat.le_refl _) (Nat.le_refl _) dX6_takesTwo_50 ?_
    exact ⟨by rw [z1]; rfl, hS, hR1.tr hR2, fun h => (by rw [z1] at h; cases h), fun _ => by rw [z2]; exact hG2⟩
  · have z := k2 hb2 heq
    refine PW.if_eqB 49 (by decide) dX6_takesTwo_27 (fun hc27 => by (first | (exfalso; omega) | cases hc27)) (fun hc27 => ?_)
    refine PW.aload_n rfl rfl dX6_takesTwo_30 ?_
    refine PW.gR hS.1 (by decide) rfl fX6_50 dX6_takesTwo_31 ?_
    refine PW.iconst (v := nI 0) (by decide) dX6_takesTwo_34 ?_
    refine PW.aI hS.1 (by decide) rfl (by exact rfl) ⟨by omega, by decide⟩ (v0) dX6_takesTwo_35 ?_
    refine PW.aload_n rfl rfl dX6_takesTwo_36 ?_
    refine PW.gR hS.1 (by decide) rfl fX6_50 dX6_takesTwo_37 ?_
    refine PW.iconst (v := nI 1) (by decide) dX6_takesTwo_40 ?_
    refine PW.aI hS.1 (by decide) rfl (by exact rfl) ⟨by omega, by decide⟩ (v1) dX6_takesTwo_41 ?_
    refine PW.icmp_eqN 49 (by decide) (by first | omega | (split <;> omega)) (by first | omega | (split <;> omega)) dX6_takesTwo_42 (fun hc42 => by (first | (exfalso; omega) | cases hc42)) (fun hc42 => ?_)
    refine PW.iconst (v := nI 1) (by decide) dX6_takesTwo_45 ?_
    refine PW.goto 50 (by decide) dX6_takesTwo_46 ?_
    refine PW.zret rfl (by first | exact bI_nar _ | rfl) (Nat.le_refl _) (Nat.le_refl _) dX6_takesTwo_50 ?_
    refine ⟨by rw [z, hb2]; rfl, hS, hR1.tr hR2, fun _ => ?_, fun h => (by rw [z, hb2] at h; cases h)⟩
    unfold AS
    rw [z]
    exact hA2
end MTWO
