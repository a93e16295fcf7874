/-! ===== stow: the class's search ===== -/
section XPUT
variable {b s : Nat} {sc : pw_E} {R : DR} {w : Nat → Nat} {p : Int32} {d : Nat}
theorem put_dv {P n a r : Nat} (hP : 0 < P) : r / P ^ (n + 1) = a ↔ ∃ k, k < P ∧ r / P ^ n = a * P + k := by
  rw [Nat.pow_succ, ← Nat.div_div_eq_div_mul]
  constructor
  · intro h
    exact ⟨r / P ^ n % P, Nat.mod_lt _ hP, by rw [← h, Nat.mul_comm]; exact (Nat.div_add_mod _ _).symm⟩
  · rintro ⟨k, hk, h⟩
    rw [h, dv_q hk]
set_option maxHeartbeats 16000000 in
theorem x_putFrom (hD : Dat R) (hw : ∀ t, t < R 1 0 → w t < R 0 0) (M : Nat) (hM6 : M ≤ 6) : ∀ (n : Nat) (mem : pw_M) (t a m : Nat), St b s sc mem → XD mem b R → XL mem b R → XN mem 13 (R 1 0) w p d → t + n = R 1 0 → (∀ j, j < t → iv mem 44 j = nI (pD (R 0 0) t a j)) → (∀ k, k < R 0 0 → iv mem 45 k = nI (fillN R (pD (R 0 0) t a) k t)) → okL R (pD (R 0 0) t a) t = true → (∀ k, k < R 0 0 → fillN R (pD (R 0 0) t a) k t ≤ R 3 k) → cntN w (pD (R 0 0) t a) t + m = M →
    Ret (n + 1) 0 0 mX3_putFrom [.ref 43, .ref b, .ref 13, .int (nI t), .int (nI m)] mem (fun v m1 => St b s sc m1 ∧ Ag (fun r => r ≠ 44 ∧ r ≠ 45) mem m1 ∧ ((v = some (.int (nI 1)) ∧ ∃ r, r / R 0 0 ^ n = a ∧ GD R w M r ∧ (∀ r', r' / R 0 0 ^ n = a → r' < r → ¬ GD R w M r') ∧ ∀ j, j < R 1 0 → iv m1 44 j = nI (pD (R 0 0) (R 1 0) r j)) ∨ (v = some (.int (nI 0)) ∧ (∀ r, r / R 0 0 ^ n = a → ¬ GD R w M r) ∧ (∀ j, j < t → iv m1 44 j = iv mem 44 j) ∧ ∀ k, k < R 0 0 → iv m1 45 k = iv mem 45 k))) := by
  have h6 := hD.1
  have hT := hD.2.1
  intro n
  induction n with
  | zero =>
    intro mem t a m hS hX hL hN ht hpl hld hok hsz hcm
    have hb := hS.b
    refine Ret.of (by decide) (Nat.le_of_ble_eq_true rfl) fun l G => ?_
    show PW _ _ _ _ [(0, _), (1, _), (2, _), (3, _), (4, _)] _ _ _
    refine PW.iload_n rfl rfl dX3_putFrom_0 ?_
    refine PW.aload_n rfl rfl dX3_putFrom_1 ?_
    refine PW.gI hS.1 (by have := hS.b; omega) (skR1 hS.b) (hX.2.1) fX3_22 dX3_putFrom_2 ?_
    refine PW.icmp_ltN 10 (by decide) (by first | omega | (split <;> omega)) (by first | omega | (split <;> omega)) dX3_putFrom_5 (fun hc5 => by exfalso; omega) (fun hc5 => ?_)
    refine PW.iconst (v := nI 1) (by decide) dX3_putFrom_8 ?_
    refine PW.zret rfl (by first | exact bI_nar _ | rfl) (Nat.le_refl _) (Nat.le_refl _) dX3_putFrom_9 ?_
    refine ⟨hS, Ag.rf, Or.inl ⟨rfl, a, by rw [Nat.pow_zero, Nat.div_one], ?_, ?_, ?_⟩⟩
    · have e : t = R 1 0 := by omega
      rw [e] at hok hsz hcm
      exact ⟨okR_iff.mpr ⟨hok, hsz⟩, by omega⟩
    · intro r' h1 h2
      rw [Nat.pow_zero, Nat.div_one] at h1
      omega
    · have e : t = R 1 0 := by omega
      rw [e] at hpl
      exact hpl
  | succ n IH =>
    intro mem t a m hS hX hL hN ht hpl hld hok hsz hcm
    have hb := hS.b
    have htT : t < R 1 0 := by omega
    have hP := hw t htT
    have q14 := (hD.2.2.2.2.2.2 t htT).2.2.1
    have d13 := (hD.2.2.2.2.2.2 t htT).1
    refine Ret.of (by decide) (Nat.le_of_ble_eq_true rfl) fun l G => ?_
    show PW _ _ _ _ [(0, _), (1, _), (2, _), (3, _), (4, _)] _ _ _
    refine PW.iload_n rfl rfl dX3_putFrom_0 ?_
    refine PW.aload_n rfl rfl dX3_putFrom_1 ?_
    refine PW.gI hS.1 (by have := hS.b; omega) (skR1 hS.b) (hX.2.1) fX3_22 dX3_putFrom_2 ?_
    refine PW.icmp_ltN 10 (by decide) (by first | omega | (split <;> omega)) (by first | omega | (split <;> omega)) dX3_putFrom_5 (fun hc5 => ?_) (fun hc5 => by exfalso; omega)
    refine PW.aload_n rfl rfl dX3_putFrom_10 ?_
    refine PW.gR hS.1 (by have := hS.b; omega) (skR14 hS.b) fX3_51 dX3_putFrom_11 ?_
    refine PW.iload_n rfl rfl dX3_putFrom_14 ?_
    refine PW.aI hS.1 (by have := hS.b; omega) (akR18 hS.b) (by exact rfl) ⟨by omega, by decide⟩ ((hX.2.2.2.2.2.2 t htT).2.1) dX3_putFrom_15 ?_
    refine PW.istore (by decide) dX3_putFrom_16 (?_ : PW _ _ _ _ [(0, _), (1, _), (2, _), (3, _), (4, _), (5, _)] _ _ _)
    refine PW.iconst (v := nI 0) (by decide) dX3_putFrom_18 ?_
    refine PW.istore (by decide) dX3_putFrom_19 (?_ : PW _ _ _ _ [(0, _), (1, _), (2, _), (3, _), (4, _), (5, _), (6, _)] _ _ _)
    skip
    refine PW.loop (I := fun k m1 => St b s sc m1 ∧ Ag (fun r => r ≠ 44 ∧ r ≠ 45) mem m1 ∧ (∀ j, j < t → iv m1 44 j = iv mem 44 j) ∧ (∀ k, k < R 0 0 → iv m1 45 k = iv mem 45 k) ∧ ∀ k', k' < k → ∀ r, r / R 0 0 ^ n = a * R 0 0 + k' → ¬ GD R w M r) (fun k _ => [(0, .ref 43), (1, .ref b), (2, .ref 13), (3, .int (nI t)), (4, .int (nI m)), (5, .int (nI (R 14 t))), (6, .int (nI k))]) (fun _ m => m) (R 0 0) (fun k m1 hk hI ih => ?_) (fun m1 hI => ?_) _ ⟨hS, Ag.rf, fun _ _ => rfl, fun _ _ => rfl, fun k' hk' => absurd hk' (Nat.not_lt_zero _)⟩
    · obtain ⟨hS, hA, hv4, hv5, hno⟩ := hI
      have hX2 := hX.ag hA (fun r h1 h2 => by omega)
      have hL2 := hL.ag hA (by omega) (by omega)
      have hN2 := hN.ag hA (by decide) (by decide)
      have hl := letsN_lt R k 6
      have hbt := letsN_bit R k 6 (R 13 t)
      rw [decide_eq_true d13, Bool.true_and] at hbt
      have hs3 := (hD.2.2.2.1 k hk).2.1
      have hs3' := hsz k hk
      have ht1 : (t + 1) + n = R 1 0 := by omega
      have el : okL R (pD (R 0 0) (t + 1) (a * R 0 0 + k)) (t + 1) = letN R k (R 13 t) := by
        rw [okL, pD_last hk, okL_c t (fun j hj => pD_pre1 hk hj), hok, Bool.true_and]
      have ec : cntN w (pD (R 0 0) (t + 1) (a * R 0 0 + k)) (t + 1) = cntN w (pD (R 0 0) t a) t + if k = w t then 0 else 1 := by
        rw [cntN, pD_last hk, cntN_c t (fun j hj => pD_pre1 hk hj)]
      have ef : ∀ q, fillN R (pD (R 0 0) (t + 1) (a * R 0 0 + k)) q (t + 1) = fillN R (pD (R 0 0) t a) q t + if k = q then R 14 t else 0 := fun q => by
        rw [fillN, pD_last hk, fillN_c t (fun j hj => pD_pre1 hk hj)]
      have skip : (∀ r, r / R 0 0 ^ n = a * R 0 0 + k → ¬ GD R w M r) → ∀ m2, St b s sc m2 → Ag (fun r => r ≠ 44 ∧ r ≠ 45) mem m2 → (∀ j, j < t → iv m2 44 j = iv mem 44 j) → (∀ k, k < R 0 0 → iv m2 45 k = iv mem 45 k) → PW (l, G, mX3_putFrom, pw_rm (n + 1 + 1) 0 0, 0, 0) 0 0 21 [(0, .ref 43), (1, .ref b), (2, .ref 13), (3, .int (nI t)), (4, .int (nI m)), (5, .int (nI (R 14 t))), (6, .int (nI (k + 1)))] [] m2 _ := fun hn m2 q1 q2 q3 q4 => ih m2 ⟨q1, q2, q3, q4, fun k' hk' r hr => by
        by_cases e : k' = k
        · rw [e] at hr; exact hn r hr
        · exact hno k' (by omega) r hr⟩
      have rest : ∀ x, cntN w (pD (R 0 0) (t + 1) (a * R 0 0 + k)) (t + 1) + x = M → PW (l, G, mX3_putFrom, pw_rm (n + 1 + 1) 0 0, 0, 0) 0 0 57 [(0, .ref 43), (1, .ref b), (2, .ref 13), (3, .int (nI t)), (4, .int (nI m)), (5, .int (nI (R 14 t))), (6, .int (nI k)), (7, .int (nI x))] [] m1 (fun v m1 => St b s sc m1 ∧ Ag (fun r => r ≠ 44 ∧ r ≠ 45) mem m1 ∧ ((v = some (.int (nI 1)) ∧ ∃ r, r / R 0 0 ^ (n + 1) = a ∧ GD R w M r ∧ (∀ r', r' / R 0 0 ^ (n + 1) = a → r' < r → ¬ GD R w M r') ∧ ∀ j, j < R 1 0 → iv m1 44 j = nI (pD (R 0 0) (R 1 0) r j)) ∨ (v = some (.int (nI 0)) ∧ (∀ r, r / R 0 0 ^ (n + 1) = a → ¬ GD R w M r) ∧ (∀ j, j < t → iv m1 44 j = iv mem 44 j) ∧ ∀ k, k < R 0 0 → iv m1 45 k = iv mem 45 k))) := fun x hx => by
        have lk5 := (hv5 k hk).trans (hld k hk)
        cases hlet : letN R k (R 13 t)
        · refine PW.aload_n rfl rfl dX3_putFrom_57 ?_
          refine PW.gR hS.1 (by have := hS.b; omega) (skR17 hS.b) fX3_41 dX3_putFrom_58 ?_
          refine PW.iload rfl dX3_putFrom_61 ?_
          refine PW.aI hS.1 (by have := hS.b; omega) (akR21 hS.b) (by exact rfl) ⟨by omega, by decide⟩ (hL2.1 k hk) dX3_putFrom_63 ?_
          refine PW.aload_n rfl rfl dX3_putFrom_64 ?_
          refine PW.gR hS.1 (by have := hS.b; omega) (skR13 hS.b) fX3_44 dX3_putFrom_65 ?_
          refine PW.iload_n rfl rfl dX3_putFrom_68 ?_
          refine PW.aI hS.1 (by have := hS.b; omega) (akR17 hS.b) (by exact rfl) ⟨by omega, by decide⟩ ((hX2.2.2.2.2.2.2 t htT).1) dX3_putFrom_69 ?_
          refine PW.cSN _ kX3_47 (x_has (a := letsN R k 6) (k := R 13 t) (by omega) (by omega) m1) rfl rfl (Nat.le_of_ble_eq_true rfl) ⟨by show 0 + 1 ≤ n + 1 + 1; omega, by show 100 * 0 + 100 ≤ 100 * (n + 1 + 1); omega⟩ ⟨Nat.zero_le _, Nat.zero_le _⟩ dX3_putFrom_70 ?_
          refine PW.if_eqB 144 (by decide) dX3_putFrom_73 (fun hc73 => ?_) (fun hc73 => by (first | (exfalso; omega) | (rw [hbt, hlet] at hc73; cases hc73)))
          refine PW.iincN rfl (by decide) dX3_putFrom_144 (?_ : PW _ _ _ _ [(0, _), (1, _), (2, _), (3, _), (4, _), (5, _), (6, _), (7, _)] _ _ _)
          refine PW.goto 21 (by decide) dX3_putFrom_147 ?_
          refine PW.drop _ (fun r h => List.mem_of_mem_take (i := 7) h) ?_
          refine skip (fun r hr g => ?_) m1 hS hA hv4 hv5
          obtain ⟨g1, g2, g3⟩ := g.pre ht1 hr
          rw [el, hlet] at g1
          cases g1
        by_cases hfit : fillN R (pD (R 0 0) t a) k t + R 14 t ≤ R 3 k
        · refine PW.aload_n rfl rfl dX3_putFrom_57 ?_
          refine PW.gR hS.1 (by have := hS.b; omega) (skR17 hS.b) fX3_41 dX3_putFrom_58 ?_
          refine PW.iload rfl dX3_putFrom_61 ?_
          refine PW.aI hS.1 (by have := hS.b; omega) (akR21 hS.b) (by exact rfl) ⟨by omega, by decide⟩ (hL2.1 k hk) dX3_putFrom_63 ?_
          refine PW.aload_n rfl rfl dX3_putFrom_64 ?_
          refine PW.gR hS.1 (by have := hS.b; omega) (skR13 hS.b) fX3_44 dX3_putFrom_65 ?_
          refine PW.iload_n rfl rfl dX3_putFrom_68 ?_
          refine PW.aI hS.1 (by have := hS.b; omega) (akR17 hS.b) (by exact rfl) ⟨by omega, by decide⟩ ((hX2.2.2.2.2.2.2 t htT).1) dX3_putFrom_69 ?_
          refine PW.cSN _ kX3_47 (x_has (a := letsN R k 6) (k := R 13 t) (by omega) (by omega) m1) rfl rfl (Nat.le_of_ble_eq_true rfl) ⟨by show 0 + 1 ≤ n + 1 + 1; omega, by show 100 * 0 + 100 ≤ 100 * (n + 1 + 1); omega⟩ ⟨Nat.zero_le _, Nat.zero_le _⟩ dX3_putFrom_70 ?_
          refine PW.if_eqB 144 (by decide) dX3_putFrom_73 (fun hc73 => by (first | (exfalso; omega) | (rw [hbt, hlet] at hc73; cases hc73))) (fun hc73 => ?_)
          refine PW.aload_n rfl rfl dX3_putFrom_76 ?_
          refine PW.gR hS.1 (by decide) rfl fX3_15 dX3_putFrom_77 ?_
          refine PW.iload rfl dX3_putFrom_80 ?_
          refine PW.aI hS.1 (by decide) rfl (by exact rfl) ⟨by omega, by decide⟩ (lk5) dX3_putFrom_82 ?_
          refine PW.iload rfl dX3_putFrom_83 ?_
          refine PW.iaddN dX3_putFrom_85 ?_
          refine PW.aload_n rfl rfl dX3_putFrom_86 ?_
          refine PW.gR hS.1 (by have := hS.b; omega) (skR3 hS.b) fX3_54 dX3_putFrom_87 ?_
          refine PW.iload rfl dX3_putFrom_90 ?_
          refine PW.aI hS.1 (by have := hS.b; omega) (akR1 hS.b) (by exact rfl) ⟨by omega, by decide⟩ ((hX2.2.2.2.1 k hk).1) dX3_putFrom_92 ?_
          refine PW.icmp_gtN 144 (by decide) (by first | omega | (split <;> omega)) (by first | omega | (split <;> omega)) dX3_putFrom_93 (fun hc93 => by (first | (exfalso; omega) | (rw [hbt, hlet] at hc93; cases hc93))) (fun hc93 => ?_)
          refine PW.aload_n rfl rfl dX3_putFrom_96 ?_
          refine PW.gR hS.1 (by decide) rfl fX3_9 dX3_putFrom_97 ?_
          refine PW.iload_n rfl rfl dX3_putFrom_100 ?_
          refine PW.iload rfl dX3_putFrom_101 ?_
          refine PW.uI hS (by decide) rfl (by exact rfl) ⟨by omega, by decide⟩ dX3_putFrom_103 (fun hS hw103 => ?_)
          refine PW.aload_n rfl rfl dX3_putFrom_104 ?_
          refine PW.gR hS.1 (by decide) rfl fX3_15 dX3_putFrom_105 ?_
          refine PW.iload rfl dX3_putFrom_108 ?_
          refine PW.dup2 rfl rfl dX3_putFrom_110 ?_
          refine PW.aI hS.1 (by decide) rfl (by exact rfl) ⟨by omega, by decide⟩ ((iv_wI_ne (by decide)).trans lk5) dX3_putFrom_111 ?_
          refine PW.iload rfl dX3_putFrom_112 ?_
          refine PW.iaddN dX3_putFrom_114 ?_
          refine PW.uI hS (by decide) rfl (by exact rfl) ⟨by omega, by decide⟩ dX3_putFrom_115 (fun hS hw115 => ?_)
          skip
          have hA3 : Ag (fun r => r ≠ 44 ∧ r ≠ 45) mem (wI (wI m1 44 t (nI k)) 45 k (nI (fillN R (pD (R 0 0) t a) k t + R 14 t))) := (hA.tr (Ag.wI (fun h => h.1 rfl))).tr (Ag.wI (fun h => h.2 rfl))
          have p4 : ∀ j, j < t + 1 → iv (wI (wI m1 44 t (nI k)) 45 k (nI (fillN R (pD (R 0 0) t a) k t + R 14 t))) 44 j = nI (pD (R 0 0) (t + 1) (a * R 0 0 + k) j) := fun j hj => by
            rw [iv_wI_ne (by decide), hw103]
            by_cases e : j = t
            · rw [if_pos e, e, pD_last hk]
            · rw [if_neg e, pD_pre1 hk (by omega), hv4 j (by omega)]; exact hpl j (by omega)
          have p5 : ∀ q, q < R 0 0 → iv (wI (wI m1 44 t (nI k)) 45 k (nI (fillN R (pD (R 0 0) t a) k t + R 14 t))) 45 q = nI (fillN R (pD (R 0 0) (t + 1) (a * R 0 0 + k)) q (t + 1)) := fun q hq => by
            rw [hw115, ef]
            by_cases e : q = k
            · rw [if_pos e, if_pos e.symm, e]
            · rw [if_neg e, if_neg (fun h => e h.symm), iv_wI_ne (by decide), hv5 q hq]; exact hld q hq
          have p6 : ∀ q, q < R 0 0 → fillN R (pD (R 0 0) (t + 1) (a * R 0 0 + k)) q (t + 1) ≤ R 3 q := fun q hq => by
            rw [ef]
            by_cases e : k = q
            · rw [if_pos e, ← e]; exact hfit
            · rw [if_neg e]; exact hsz q hq
          have hcall := IH _ (t + 1) (a * R 0 0 + k) x hS (hX.ag hA3 (fun r h1 h2 => by omega)) (hL.ag hA3 (by omega) (by omega)) (hN.ag hA3 (by decide) (by decide)) ht1 p4 p5 (el.trans hlet) p6 hx
          refine PW.aload_n rfl rfl dX3_putFrom_116 ?_
          refine PW.aload_n rfl rfl dX3_putFrom_117 ?_
          refine PW.aload_n rfl rfl dX3_putFrom_118 ?_
          refine PW.iload_n rfl rfl dX3_putFrom_119 ?_
          refine PW.iconst (v := nI 1) (by decide) dX3_putFrom_120 ?_
          refine PW.iaddN dX3_putFrom_121 ?_
          refine PW.iload rfl dX3_putFrom_122 ?_
          refine PW.dS _ kX3_34 (hcall) rfl rfl (Nat.le_of_ble_eq_true rfl) ⟨by show n + 1 + 1 ≤ n + 1 + 1; omega, by show 100 * (n + 1) + 100 ≤ 100 * (n + 1 + 1); omega⟩ ⟨Nat.zero_le _, Nat.zero_le _⟩ dX3_putFrom_124 (fun v m1 q => ?_)
          obtain ⟨hS, hA4, hres⟩ := q
          skip
          rcases hres with ⟨rfl, r, g1, g2, g3, g4⟩ | ⟨rfl, g1, g2, g3⟩
          · refine PW.if_eqN 132 (by decide) (by first | omega | (split <;> omega)) dX3_putFrom_127 (fun hc127 => by (exfalso; omega)) (fun hc127 => ?_)
            refine PW.iconst (v := nI 1) (by decide) dX3_putFrom_130 ?_
            refine PW.zret rfl (by first | exact bI_nar _ | rfl) (Nat.le_refl _) (Nat.le_refl _) dX3_putFrom_131 ?_
            refine ⟨hS, hA3.tr hA4, Or.inl ⟨rfl, r, (put_dv (by omega)).mpr ⟨k, hk, g1⟩, g2, fun r' h1 h2 => ?_, g4⟩⟩
            obtain ⟨k', hk', e⟩ := (put_dv (by omega)).mp h1
            have hle : r' / R 0 0 ^ n ≤ r / R 0 0 ^ n := Nat.div_le_div_right (Nat.le_of_lt h2)
            rw [e, g1] at hle
            by_cases ek : k' = k
            · rw [ek] at e; exact g3 r' e h2
            · exact hno k' (by omega) r' e
          · refine PW.if_eqN 132 (by decide) (by first | omega | (split <;> omega)) dX3_putFrom_127 (fun hc127 => ?_) (fun hc127 => by (exfalso; omega))
            refine PW.aload_n rfl rfl dX3_putFrom_132 ?_
            refine PW.gR hS.1 (by decide) rfl fX3_15 dX3_putFrom_133 ?_
            refine PW.iload rfl dX3_putFrom_136 ?_
            refine PW.dup2 rfl rfl dX3_putFrom_138 ?_
            refine PW.aI hS.1 (by decide) rfl (by exact rfl) ⟨by omega, by decide⟩ ((g3 k hk).trans ((p5 k hk).trans (by rw [ef, if_pos rfl]))) dX3_putFrom_139 ?_
            refine PW.iload rfl dX3_putFrom_140 ?_
            refine PW.isubN (by omega) dX3_putFrom_142 ?_
            refine PW.uI hS (by decide) rfl (by exact rfl) ⟨by omega, by decide⟩ dX3_putFrom_143 (fun hS hw143 => ?_)
            refine PW.iincN rfl (by decide) dX3_putFrom_144 (?_ : PW _ _ _ _ [(0, _), (1, _), (2, _), (3, _), (4, _), (5, _), (6, _), (7, _)] _ _ _)
            refine PW.goto 21 (by decide) dX3_putFrom_147 ?_
            refine PW.drop _ (fun r h => List.mem_of_mem_take (i := 7) h) ?_
            refine skip g1 _ hS ((hA3.tr hA4).tr (Ag.wI (fun h => h.2 rfl))) (fun j hj => ?_) (fun q hq => ?_)
            · rw [iv_wI_ne (by decide), g2 j (by omega), p4 j (by omega), pD_pre1 hk hj]; exact (hpl j hj).symm
            · rw [hw143]
              by_cases e : q = k
              · rw [if_pos e, e, hld k hk, Nat.add_sub_cancel]
              · rw [if_neg e, g3 q hq, p5 q hq, ef, if_neg (fun h => e h.symm)]; exact (hld q hq).symm
        · refine PW.aload_n rfl rfl dX3_putFrom_57 ?_
          refine PW.gR hS.1 (by have := hS.b; omega) (skR17 hS.b) fX3_41 dX3_putFrom_58 ?_
          refine PW.iload rfl dX3_putFrom_61 ?_
          refine PW.aI hS.1 (by have := hS.b; omega) (akR21 hS.b) (by exact rfl) ⟨by omega, by decide⟩ (hL2.1 k hk) dX3_putFrom_63 ?_
          refine PW.aload_n rfl rfl dX3_putFrom_64 ?_
          refine PW.gR hS.1 (by have := hS.b; omega) (skR13 hS.b) fX3_44 dX3_putFrom_65 ?_
          refine PW.iload_n rfl rfl dX3_putFrom_68 ?_
          refine PW.aI hS.1 (by have := hS.b; omega) (akR17 hS.b) (by exact rfl) ⟨by omega, by decide⟩ ((hX2.2.2.2.2.2.2 t htT).1) dX3_putFrom_69 ?_
          refine PW.cSN _ kX3_47 (x_has (a := letsN R k 6) (k := R 13 t) (by omega) (by omega) m1) rfl rfl (Nat.le_of_ble_eq_true rfl) ⟨by show 0 + 1 ≤ n + 1 + 1; omega, by show 100 * 0 + 100 ≤ 100 * (n + 1 + 1); omega⟩ ⟨Nat.zero_le _, Nat.zero_le _⟩ dX3_putFrom_70 ?_
          refine PW.if_eqB 144 (by decide) dX3_putFrom_73 (fun hc73 => by (first | (exfalso; omega) | (rw [hbt, hlet] at hc73; cases hc73))) (fun hc73 => ?_)
          refine PW.aload_n rfl rfl dX3_putFrom_76 ?_
          refine PW.gR hS.1 (by decide) rfl fX3_15 dX3_putFrom_77 ?_
          refine PW.iload rfl dX3_putFrom_80 ?_
          refine PW.aI hS.1 (by decide) rfl (by exact rfl) ⟨by omega, by decide⟩ (lk5) dX3_putFrom_82 ?_
          refine PW.iload rfl dX3_putFrom_83 ?_
          refine PW.iaddN dX3_putFrom_85 ?_
          refine PW.aload_n rfl rfl dX3_putFrom_86 ?_
          refine PW.gR hS.1 (by have := hS.b; omega) (skR3 hS.b) fX3_54 dX3_putFrom_87 ?_
          refine PW.iload rfl dX3_putFrom_90 ?_
          refine PW.aI hS.1 (by have := hS.b; omega) (akR1 hS.b) (by exact rfl) ⟨by omega, by decide⟩ ((hX2.2.2.2.1 k hk).1) dX3_putFrom_92 ?_
          refine PW.icmp_gtN 144 (by decide) (by first | omega | (split <;> omega)) (by first | omega | (split <;> omega)) dX3_putFrom_93 (fun hc93 => ?_) (fun hc93 => by (first | (exfalso; omega) | (rw [hbt, hlet] at hc93; cases hc93)))
          refine PW.iincN rfl (by decide) dX3_putFrom_144 (?_ : PW _ _ _ _ [(0, _), (1, _), (2, _), (3, _), (4, _), (5, _), (6, _), (7, _)] _ _ _)
          refine PW.goto 21 (by decide) dX3_putFrom_147 ?_
          refine PW.drop _ (fun r h => List.mem_of_mem_take (i := 7) h) ?_
          refine skip (fun r hr g => ?_) m1 hS hA hv4 hv5
          obtain ⟨g1, g2, g3⟩ := g.pre ht1 hr
          have h3 := g3 k hk
          rw [ef, if_pos rfl] at h3
          omega
      by_cases hkw : k = w t
      · refine PW.iload rfl dX3_putFrom_21 ?_
        refine PW.aload_n rfl rfl dX3_putFrom_23 ?_
        refine PW.gI hS.1 (by have := hS.b; omega) (skR0 hS.b) (hX2.1) fX3_38 dX3_putFrom_24 ?_
        refine PW.icmp_geN 150 (by decide) (by first | omega | (split <;> omega)) (by first | omega | (split <;> omega)) dX3_putFrom_27 (fun hc27 => by (first | (exfalso; omega) | exact absurd hc27 (nI_pos (by omega)) | exact absurd (by decide) hc27)) (fun hc27 => ?_)
        refine PW.iload rfl dX3_putFrom_30 ?_
        refine PW.aload_n rfl rfl dX3_putFrom_32 ?_
        refine PW.gR hS.1 (by decide) rfl fX3_57 dX3_putFrom_33 ?_
        refine PW.iload_n rfl rfl dX3_putFrom_36 ?_
        refine PW.aI hS.1 (by decide) rfl (by exact rfl) ⟨by omega, by decide⟩ (hN2.1 t htT) dX3_putFrom_37 ?_
        refine PW.icmp_neN 46 (by decide) (by first | omega | (split <;> omega)) (by first | omega | (split <;> omega)) dX3_putFrom_38 (fun hc38 => by (first | (exfalso; omega) | exact absurd hc38 (nI_pos (by omega)) | exact absurd (by decide) hc38)) (fun hc38 => ?_)
        refine PW.iload rfl dX3_putFrom_41 ?_
        refine PW.goto 50 (by decide) dX3_putFrom_43 ?_
        refine PW.istore (by decide) dX3_putFrom_50 (?_ : PW _ _ _ _ [(0, _), (1, _), (2, _), (3, _), (4, _), (5, _), (6, _), (7, _)] _ _ _)
        refine PW.iload rfl dX3_putFrom_52 ?_
        refine PW.if_lt 144 (by decide) dX3_putFrom_54 (fun hc54 => by (first | (exfalso; omega) | exact absurd hc54 (nI_pos (by omega)) | exact absurd (by decide) hc54)) (fun hc54 => ?_)
        exact rest m (by rw [ec, if_pos hkw]; omega)
      · by_cases hm0 : m = 0
        · subst hm0
          refine PW.iload rfl dX3_putFrom_21 ?_
          refine PW.aload_n rfl rfl dX3_putFrom_23 ?_
          refine PW.gI hS.1 (by have := hS.b; omega) (skR0 hS.b) (hX2.1) fX3_38 dX3_putFrom_24 ?_
          refine PW.icmp_geN 150 (by decide) (by first | omega | (split <;> omega)) (by first | omega | (split <;> omega)) dX3_putFrom_27 (fun hc27 => by (first | (exfalso; omega) | exact absurd hc27 (nI_pos (by omega)) | exact absurd (by decide) hc27)) (fun hc27 => ?_)
          refine PW.iload rfl dX3_putFrom_30 ?_
          refine PW.aload_n rfl rfl dX3_putFrom_32 ?_
          refine PW.gR hS.1 (by decide) rfl fX3_57 dX3_putFrom_33 ?_
          refine PW.iload_n rfl rfl dX3_putFrom_36 ?_
          refine PW.aI hS.1 (by decide) rfl (by exact rfl) ⟨by omega, by decide⟩ (hN2.1 t htT) dX3_putFrom_37 ?_
          refine PW.icmp_neN 46 (by decide) (by first | omega | (split <;> omega)) (by first | omega | (split <;> omega)) dX3_putFrom_38 (fun hc38 => ?_) (fun hc38 => by (first | (exfalso; omega) | exact absurd hc38 (nI_pos (by omega)) | exact absurd (by decide) hc38))
          refine PW.iload rfl dX3_putFrom_46 ?_
          refine PW.iconst (v := nI 1) (by decide) dX3_putFrom_48 ?_
          refine PW.isub dX3_putFrom_49 ?_
          refine PW.istore (by decide) dX3_putFrom_50 (?_ : PW _ _ _ _ [(0, _), (1, _), (2, _), (3, _), (4, _), (5, _), (6, _), (7, _)] _ _ _)
          refine PW.iload rfl dX3_putFrom_52 ?_
          refine PW.if_lt 144 (by decide) dX3_putFrom_54 (fun hc54 => ?_) (fun hc54 => by (first | (exfalso; omega) | exact absurd hc54 (nI_pos (by omega)) | exact absurd (by decide) hc54))
          refine PW.iincN rfl (by decide) dX3_putFrom_144 (?_ : PW _ _ _ _ [(0, _), (1, _), (2, _), (3, _), (4, _), (5, _), (6, _), (7, _)] _ _ _)
          refine PW.goto 21 (by decide) dX3_putFrom_147 ?_
          refine PW.drop _ (fun r h => List.mem_of_mem_take (i := 7) h) ?_
          refine skip (fun r hr g => ?_) m1 hS hA hv4 hv5
          obtain ⟨g1, g2, g3⟩ := g.pre ht1 hr
          rw [ec, if_neg hkw] at g2
          omega
        · refine PW.iload rfl dX3_putFrom_21 ?_
          refine PW.aload_n rfl rfl dX3_putFrom_23 ?_
          refine PW.gI hS.1 (by have := hS.b; omega) (skR0 hS.b) (hX2.1) fX3_38 dX3_putFrom_24 ?_
          refine PW.icmp_geN 150 (by decide) (by first | omega | (split <;> omega)) (by first | omega | (split <;> omega)) dX3_putFrom_27 (fun hc27 => by (first | (exfalso; omega) | exact absurd hc27 (nI_pos (by omega)) | exact absurd (by decide) hc27)) (fun hc27 => ?_)
          refine PW.iload rfl dX3_putFrom_30 ?_
          refine PW.aload_n rfl rfl dX3_putFrom_32 ?_
          refine PW.gR hS.1 (by decide) rfl fX3_57 dX3_putFrom_33 ?_
          refine PW.iload_n rfl rfl dX3_putFrom_36 ?_
          refine PW.aI hS.1 (by decide) rfl (by exact rfl) ⟨by omega, by decide⟩ (hN2.1 t htT) dX3_putFrom_37 ?_
          refine PW.icmp_neN 46 (by decide) (by first | omega | (split <;> omega)) (by first | omega | (split <;> omega)) dX3_putFrom_38 (fun hc38 => ?_) (fun hc38 => by (first | (exfalso; omega) | exact absurd hc38 (nI_pos (by omega)) | exact absurd (by decide) hc38))
          refine PW.iload rfl dX3_putFrom_46 ?_
          refine PW.iconst (v := nI 1) (by decide) dX3_putFrom_48 ?_
          refine PW.isubN (by omega) dX3_putFrom_49 ?_
          refine PW.istore (by decide) dX3_putFrom_50 (?_ : PW _ _ _ _ [(0, _), (1, _), (2, _), (3, _), (4, _), (5, _), (6, _), (7, _)] _ _ _)
          refine PW.iload rfl dX3_putFrom_52 ?_
          refine PW.if_lt 144 (by decide) dX3_putFrom_54 (fun hc54 => by (first | (exfalso; omega) | exact absurd hc54 (nI_pos (by omega)) | exact absurd (by decide) hc54)) (fun hc54 => ?_)
          exact rest (m - 1) (by rw [ec, if_neg hkw]; omega)
    · obtain ⟨hS, hA, hv4, hv5, hno⟩ := hI
      have hX2 := hX.ag hA (fun r h1 h2 => by omega)
      refine PW.iload rfl dX3_putFrom_21 ?_
      refine PW.aload_n rfl rfl dX3_putFrom_23 ?_
      refine PW.gI hS.1 (by have := hS.b; omega) (skR0 hS.b) (hX2.1) fX3_38 dX3_putFrom_24 ?_
      refine PW.icmp_geN 150 (by decide) (by first | omega | (split <;> omega)) (by first | omega | (split <;> omega)) dX3_putFrom_27 (fun hc27 => ?_) (fun hc27 => by (first | (exfalso; omega) | exact absurd hc27 (nI_pos (by omega)) | exact absurd (by decide) hc27))
      refine PW.iconst (v := nI 0) (by decide) dX3_putFrom_150 ?_
      refine PW.zret rfl (by first | exact bI_nar _ | rfl) (Nat.le_refl _) (Nat.le_refl _) dX3_putFrom_151 ?_
      refine ⟨hS, hA, Or.inr ⟨rfl, fun r hr => ?_, hv4, hv5⟩⟩
      obtain ⟨k', hk', e⟩ := (put_dv (by omega)).mp hr
      exact hno k' hk' r e
end XPUT
