/-! ===== odds: model ===== -/
section ODDM
variable {b s : Nat} {sc : pw_E} {mem : pw_M} {R : DR} {w : Nat → Nat} {p : Int32} {d : Nat} {e K : Nat}
set_option maxHeartbeats 4000000 in
theorem m_common {a c : Nat} (ha : a < 2 ^ 62) (hc : c < 2 ^ 62) (mem : pw_M) : Rf 0 mX6_common [.long (lN a), .long (lN c)] mem (some (.long (lN (Nat.gcd a c)))) mem := by
  refine Ret.of (by decide) (Nat.le_of_ble_eq_true rfl) fun l G => ?_
  show PW _ _ _ _ [(0, _), (2, _)] _ _ _
  refine PW.lload_n rfl rfl dX6_common_0 ?_
  refine PW.lstore (by decide) dX6_common_1 (?_ : PW _ _ _ _ [(0, _), (2, _), (4, _)] _ _ _)
  refine PW.lload_n rfl rfl dX6_common_3 ?_
  refine PW.lstore (by decide) dX6_common_4 (?_ : PW _ _ _ _ [(0, _), (2, _), (4, _), (6, _)] _ _ _)
  skip
  have key : ∀ y, ∀ x, x < 2 ^ 62 → y < 2 ^ 62 → Nat.gcd x y = Nat.gcd a c → PW (l, G, mX6_common, pw_rm 0 0 0, 0, 0) 0 0 6 [(0, .long (lN a)), (2, .long (lN c)), (4, .long (lN x)), (6, .long (lN y))] [] mem (fun u m1 => u = some (.long (lN (Nat.gcd a c))) ∧ m1 = mem) := by
    intro y
    induction y using Nat.strongRecOn with
    | ind y ih =>
      intro x hx hy hg
      have hz : lg_cmp (lN y) 0 = 0 ↔ y = 0 := by
        rw [lg_cmp_eq, show (0 : Int64) = lN 0 from rfl, pk_lEQ (by omega) (by decide)]
      refine PW.lload rfl dX6_common_6 ?_
      refine PW.lconst (v := 0) (by decide) dX6_common_8 ?_
      refine PW.lcmp dX6_common_9 ?_
      refine PW.if_eq 31 (by decide) dX6_common_10 (fun hc10 => ?_) (fun hc10 => ?_)
      · refine PW.lload rfl dX6_common_31 ?_
        refine PW.lret rfl (Nat.le_refl _) (Nat.le_refl _) dX6_common_33 ?_
        have hy0 : y = 0 := hz.mp hc10
        rw [hy0, Nat.gcd_zero_right] at hg
        exact ⟨by rw [hg], rfl⟩
      · have hy0 : y ≠ 0 := fun q => hc10 (hz.mpr q)
        have hyn : ¬ lN y = 0 := fun q => hy0 ((pk_lEQ (by omega) (by decide)).mp (q.trans (show (0 : Int64) = lN 0 from rfl)))
        refine PW.lload rfl dX6_common_13 ?_
        refine PW.lload rfl dX6_common_15 ?_
        refine PW.lrem (by assumption) dX6_common_17 ?_
        rw [pk_lRem (by omega) (by omega) (by omega)]
        refine PW.lstore (by decide) dX6_common_18 (?_ : PW _ _ _ _ [(0, _), (2, _), (4, _), (6, _), (8, _)] _ _ _)
        refine PW.lload rfl dX6_common_20 ?_
        refine PW.lstore (by decide) dX6_common_22 (?_ : PW _ _ _ _ [(0, _), (2, _), (4, _), (6, _), (8, _)] _ _ _)
        refine PW.lload rfl dX6_common_24 ?_
        refine PW.lstore (by decide) dX6_common_26 (?_ : PW _ _ _ _ [(0, _), (2, _), (4, _), (6, _), (8, _)] _ _ _)
        refine PW.goto 6 (by decide) dX6_common_28 ?_
        refine PW.drop _ (fun r h => List.mem_of_mem_take (i := 4) h) ?_
        have hm := Nat.mod_lt x (show 0 < y by omega)
        exact ih (x % y) hm y hy (by omega) (by rw [← hg, Nat.gcd_comm x y, Nat.gcd_rec y x, Nat.gcd_comm])
  exact key c a ha hc rfl
set_option maxHeartbeats 8000000 in
theorem m_odds (hS : St b s sc mem) (hM : MD mem R) (hD : Dat R) (hN : MN mem (R 1 0) w p d) (hw : ∀ t, t < R 1 0 → w t < R 0 0) (t k q n x : Int32) : Ret 2 0 0 mX6_odds [.ref 95, .int t, .int k, .int q, .int n, .int x] mem (fun v m1 => v = some (.int (oddS R w t k q n x)) ∧ St b s sc m1 ∧ Ag (fun r => r ≠ 114 ∧ r ≠ 115) mem m1) := by
  have h6 := hD.1
  have hT := hD.2.1
  by_cases hg : inR t (R 1 0) = true ∧ inR k (R 0 0) = true ∧ inR x 2 = true ∧ inR q 11 = true ∧ inR n 7 = true
  · rw [oddS, if_pos hg]
    obtain ⟨g1, g2, g3, g4, g5⟩ := hg
    obtain ⟨t, ht, rfl⟩ := inR_of g1
    obtain ⟨k, hk, rfl⟩ := inR_of g2
    obtain ⟨x, hx, rfl⟩ := inR_of g3
    obtain ⟨q, hq, rfl⟩ := inR_of g4
    obtain ⟨n, hn, rfl⟩ := inR_of g5
    rw [cl_nI (by omega), cl_nI (by omega), cl_nI (by omega), cl_nI (by omega)]
    have hwt := hw t ht
    have d14 := (hD.2.2.2.2.2.2 t ht).2.2.1
    refine Ret.of (by decide) (Nat.le_of_ble_eq_true rfl) fun l G => ?_
    show PW _ _ _ _ [(0, _), (1, _), (2, _), (3, _), (4, _), (5, _)] _ _ _
    refine PW.aload_n rfl rfl dX6_odds_0 ?_
    refine PW.iload_n rfl rfl dX6_odds_1 ?_
    refine PW.cV (ci := 6) (j := 0) _ hS.1 (by decide) rfl kX6_193 (m_isThing hS hM hD _) rfl rfl (Nat.le_of_ble_eq_true rfl) rfl ⟨by decide, by decide⟩ ⟨Nat.zero_le _, Nat.zero_le _⟩ dX6_odds_2 ?_
    refine PW.if_eqB 52 (by decide) dX6_odds_5 (fun hc5 => by (first | (rw [g1] at hc5; cases hc5) | (rw [g2] at hc5; cases hc5) | (rw [g3] at hc5; cases hc5) | (rw [g4] at hc5; cases hc5) | (rw [g5] at hc5; cases hc5))) (fun hc5 => ?_)
    refine PW.aload_n rfl rfl dX6_odds_8 ?_
    refine PW.iload_n rfl rfl dX6_odds_9 ?_
    refine PW.cV (ci := 6) (j := 0) _ hS.1 (by decide) rfl kX6_178 (m_isPocket hS hM hD _) rfl rfl (Nat.le_of_ble_eq_true rfl) rfl ⟨by decide, by decide⟩ ⟨Nat.zero_le _, Nat.zero_le _⟩ dX6_odds_10 ?_
    refine PW.if_eqB 52 (by decide) dX6_odds_13 (fun hc13 => by (first | (rw [g1] at hc13; cases hc13) | (rw [g2] at hc13; cases hc13) | (rw [g3] at hc13; cases hc13) | (rw [g4] at hc13; cases hc13) | (rw [g5] at hc13; cases hc13))) (fun hc13 => ?_)
    refine PW.iload_n rfl rfl dX6_odds_16 ?_
    refine PW.i2l dX6_odds_17 ?_
    refine PW.lconst (v := 0) (by decide) dX6_odds_18 ?_
    refine PW.ldc2 cX6_237 dX6_odds_19 ?_
    refine PW.cS _ kX6_82 (m_inR (nI q) (h := 10) (n := 11) rfl mem) rfl rfl (Nat.le_of_ble_eq_true rfl) ⟨by decide, by decide⟩ ⟨Nat.zero_le _, Nat.zero_le _⟩ dX6_odds_22 ?_
    refine PW.if_eqB 52 (by decide) dX6_odds_25 (fun hc25 => by (first | (rw [g1] at hc25; cases hc25) | (rw [g2] at hc25; cases hc25) | (rw [g3] at hc25; cases hc25) | (rw [g4] at hc25; cases hc25) | (rw [g5] at hc25; cases hc25))) (fun hc25 => ?_)
    refine PW.iload rfl dX6_odds_28 ?_
    refine PW.i2l dX6_odds_30 ?_
    refine PW.lconst (v := 0) (by decide) dX6_odds_31 ?_
    refine PW.ldc2 cX6_239 dX6_odds_32 ?_
    refine PW.cS _ kX6_82 (m_inR (nI n) (h := 6) (n := 7) rfl mem) rfl rfl (Nat.le_of_ble_eq_true rfl) ⟨by decide, by decide⟩ ⟨Nat.zero_le _, Nat.zero_le _⟩ dX6_odds_35 ?_
    refine PW.if_eqB 52 (by decide) dX6_odds_38 (fun hc38 => by (first | (rw [g1] at hc38; cases hc38) | (rw [g2] at hc38; cases hc38) | (rw [g3] at hc38; cases hc38) | (rw [g4] at hc38; cases hc38) | (rw [g5] at hc38; cases hc38))) (fun hc38 => ?_)
    refine PW.iload rfl dX6_odds_41 ?_
    refine PW.i2l dX6_odds_43 ?_
    refine PW.lconst (v := 0) (by decide) dX6_odds_44 ?_
    refine PW.lconst (v := 1) (by decide) dX6_odds_45 ?_
    refine PW.cS _ kX6_82 (m_inR (nI x) (h := 1) (n := 2) rfl mem) rfl rfl (Nat.le_of_ble_eq_true rfl) ⟨by decide, by decide⟩ ⟨Nat.zero_le _, Nat.zero_le _⟩ dX6_odds_46 ?_
    refine PW.if_neB 54 (by decide) dX6_odds_49 (fun hc49 => ?_) (fun hc49 => by (first | (rw [g1] at hc49; cases hc49) | (rw [g2] at hc49; cases hc49) | (rw [g3] at hc49; cases hc49) | (rw [g4] at hc49; cases hc49) | (rw [g5] at hc49; cases hc49)))
    refine PW.iconst (v := nI 0) (by decide) dX6_odds_54 ?_
    refine PW.istore (by decide) dX6_odds_55 (?_ : PW _ _ _ _ [(0, _), (1, _), (2, _), (3, _), (4, _), (5, _), (6, _)] _ _ _)
    skip
    refine PW.loop (I := fun j m => St b s sc m ∧ Ag (fun r => r ≠ 114) mem m ∧ ∀ i, i < j → jv m 114 i = lN (if i = w t then 1 else 0)) (fun j _ => [(0, .ref 95), (1, .int (nI t)), (2, .int (nI k)), (3, .int (nI q)), (4, .int (nI n)), (5, .int (nI x)), (6, .int (nI j))]) (fun _ m => m) 6 (fun j m hj hI ih => ?_) (fun m hI => ?_) mem ⟨hS, Ag.rf, fun i hi => absurd hi (Nat.not_lt_zero _)⟩
    · obtain ⟨hS, hA, hv⟩ := hI
      refine PW.iload rfl dX6_odds_57 ?_
      refine PW.bipush (v := nI 6) (by decide) dX6_odds_59 ?_
      refine PW.icmp_geN 93 (by decide) (by first | omega | (split <;> omega)) (by first | omega | (split <;> omega)) dX6_odds_61 (fun hc61 => by (exfalso; omega)) (fun hc61 => ?_)
      refine PW.aload_n rfl rfl dX6_odds_64 ?_
      refine PW.gR hS.1 (by decide) rfl fX6_65 dX6_odds_65 ?_
      refine PW.iload rfl dX6_odds_68 ?_
      refine PW.iload rfl dX6_odds_70 ?_
      refine PW.aload_n rfl rfl dX6_odds_72 ?_
      refine PW.gR hS.1 (by decide) rfl fX6_32 dX6_odds_73 ?_
      refine PW.iload_n rfl rfl dX6_odds_76 ?_
      refine PW.aI hS.1 (by decide) rfl (by exact rfl) ⟨by omega, by decide⟩ ((hA.iv (r := 103) (by decide) t).trans (hN.1 t ht)) dX6_odds_77 ?_
      refine PW.icmp_neN 85 (by decide) (by first | omega | (split <;> omega)) (by first | omega | (split <;> omega)) dX6_odds_78 (fun hc78 => ?_) (fun hc78 => ?_)
      · refine PW.lconst (v := 0) (by decide) dX6_odds_85 ?_
        refine PW.uL hS (by decide) rfl (by exact rfl) ⟨by omega, by decide⟩ dX6_odds_86 (fun hS hw86 => ?_)
        refine PW.iincN rfl (by decide) dX6_odds_87 (?_ : PW _ _ _ _ [(0, _), (1, _), (2, _), (3, _), (4, _), (5, _), (6, _)] _ _ _)
        refine PW.goto 57 (by decide) dX6_odds_90 ?_
        refine ih _ ⟨hS, hA.tr (Ag.wJ (fun h => h rfl)), fun i hi => ?_⟩
        rw [hw86]
        by_cases h : i = j
        · rw [if_pos h, h]; first | (rw [if_pos hc78]; rfl) | (rw [if_neg hc78]; rfl)
        · rw [if_neg h]; exact hv i (by omega)
      · refine PW.lconst (v := 1) (by decide) dX6_odds_81 ?_
        refine PW.goto 86 (by decide) dX6_odds_82 ?_
        refine PW.uL hS (by decide) rfl (by exact rfl) ⟨by omega, by decide⟩ dX6_odds_86 (fun hS hw86 => ?_)
        refine PW.iincN rfl (by decide) dX6_odds_87 (?_ : PW _ _ _ _ [(0, _), (1, _), (2, _), (3, _), (4, _), (5, _), (6, _)] _ _ _)
        refine PW.goto 57 (by decide) dX6_odds_90 ?_
        refine ih _ ⟨hS, hA.tr (Ag.wJ (fun h => h rfl)), fun i hi => ?_⟩
        rw [hw86]
        by_cases h : i = j
        · rw [if_pos h, h]; first | (rw [if_pos hc78]; rfl) | (rw [if_neg hc78]; rfl)
        · rw [if_neg h]; exact hv i (by omega)
    obtain ⟨hS, hA, hv⟩ := hI
    refine PW.iload rfl dX6_odds_57 ?_
    refine PW.bipush (v := nI 6) (by decide) dX6_odds_59 ?_
    refine PW.icmp_geN 93 (by decide) (by first | omega | (split <;> omega)) (by first | omega | (split <;> omega)) dX6_odds_61 (fun hc61 => ?_) (fun hc61 => by (exfalso; omega))
    refine PW.lconst (v := 1) (by decide) dX6_odds_93 ?_
    refine PW.lstore (by decide) dX6_odds_94 (?_ : PW _ _ _ _ [(0, _), (1, _), (2, _), (3, _), (4, _), (5, _), (6, _)] _ _ _)
    refine PW.iconst (v := nI 0) (by decide) dX6_odds_96 ?_
    refine PW.istore (by decide) dX6_odds_97 (?_ : PW _ _ _ _ [(0, _), (1, _), (2, _), (3, _), (4, _), (5, _), (6, _), (8, _)] _ _ _)
    skip
    refine PW.loop (I := fun j m => St b s sc m ∧ Ag (fun r => r ≠ 114 ∧ r ≠ 115) mem m ∧ ∀ i, i < 6 → jv m 114 i = lN (chN R (R 14 t) q (w t) j i)) (fun j _ => [(0, .ref 95), (1, .int (nI t)), (2, .int (nI k)), (3, .int (nI q)), (4, .int (nI n)), (5, .int (nI x)), (6, .long (lN (10 ^ j))), (8, .int (nI j))]) (fun _ m => m) n (fun j m hj hI ih => ?_) (fun m hI => ?_) _ ⟨hS, hA.mono (fun r h => h.1), hv⟩
    · obtain ⟨hS, hA, hv⟩ := hI
      have e10 : 10 ^ (j + 1) = 10 ^ j * 10 := Nat.pow_succ ..
      have ec : ∀ i, chN R (R 14 t) q (w t) (j + 1) i = spN R (R 14 t) q (chN R (R 14 t) q (w t) j) (R 0 0) i := fun _ => rfl
      rw [e10] at ih
      simp only [ec] at ih
      generalize chN R (R 14 t) q (w t) j = c at hv ih
      generalize 10 ^ j = lo at ih
      refine PW.iload rfl dX6_odds_99 ?_
      refine PW.iload rfl dX6_odds_101 ?_
      refine PW.icmp_geN 245 (by decide) (by first | omega | (split <;> omega)) (by first | omega | (split <;> omega)) dX6_odds_103 (fun hc103 => by (exfalso; omega)) (fun hc103 => ?_)
      refine PW.lload rfl dX6_odds_106 ?_
      refine PW.ldc2 cX6_237 dX6_odds_108 ?_
      refine PW.lmul dX6_odds_111 ?_
      rw [show (10 : Int64) = lN 10 from rfl, lN_mul]
      refine PW.lstore (by decide) dX6_odds_112 (?_ : PW _ _ _ _ [(0, _), (1, _), (2, _), (3, _), (4, _), (5, _), (6, _), (8, _)] _ _ _)
      refine PW.iconst (v := nI 0) (by decide) dX6_odds_114 ?_
      refine PW.istore (by decide) dX6_odds_115 (?_ : PW _ _ _ _ [(0, _), (1, _), (2, _), (3, _), (4, _), (5, _), (6, _), (8, _), (9, _)] _ _ _)
      skip
      refine PW.loop (I := fun i m => St b s sc m ∧ Ag (fun r => r ≠ 114 ∧ r ≠ 115) mem m ∧ (∀ z, z < 6 → jv m 114 z = lN (c z)) ∧ ∀ z, z < i → jv m 115 z = lN 0) (fun i _ => [(0, .ref 95), (1, .int (nI t)), (2, .int (nI k)), (3, .int (nI q)), (4, .int (nI n)), (5, .int (nI x)), (6, .long (lN (lo * 10))), (8, .int (nI j)), (9, .int (nI i))]) (fun _ m => m) 6 (fun i m hi hI ih => ?_) (fun m hI => ?_) _ ⟨hS, hA, hv, fun z hz => absurd hz (Nat.not_lt_zero _)⟩
      · obtain ⟨hS, hA, hv, hu⟩ := hI
        refine PW.iload rfl dX6_odds_117 ?_
        refine PW.bipush (v := nI 6) (by decide) dX6_odds_119 ?_
        refine PW.icmp_geN 138 (by decide) (by first | omega | (split <;> omega)) (by first | omega | (split <;> omega)) dX6_odds_121 (fun hc121 => by (exfalso; omega)) (fun hc121 => ?_)
        refine PW.aload_n rfl rfl dX6_odds_124 ?_
        refine PW.gR hS.1 (by decide) rfl fX6_69 dX6_odds_125 ?_
        refine PW.iload rfl dX6_odds_128 ?_
        refine PW.lconst (v := 0) (by decide) dX6_odds_130 ?_
        refine PW.uL hS (by decide) rfl (by exact rfl) ⟨by omega, by decide⟩ dX6_odds_131 (fun hS hw131 => ?_)
        refine PW.iincN rfl (by decide) dX6_odds_132 (?_ : PW _ _ _ _ [(0, _), (1, _), (2, _), (3, _), (4, _), (5, _), (6, _), (8, _), (9, _)] _ _ _)
        refine PW.goto 117 (by decide) dX6_odds_135 ?_
        refine ih _ ⟨hS, hA.tr (Ag.wJ (fun h => h.2 rfl)), fun z hz => by rw [jv_wJ_ne (by decide)]; exact hv z hz, fun z hz => ?_⟩
        rw [hw131]
        by_cases h : z = i
        · rw [if_pos h]; rfl
        · rw [if_neg h]; exact hu z (by omega)
      obtain ⟨hS, hA, hv, hu⟩ := hI
      refine PW.iload rfl dX6_odds_117 ?_
      refine PW.bipush (v := nI 6) (by decide) dX6_odds_119 ?_
      refine PW.icmp_geN 138 (by decide) (by first | omega | (split <;> omega)) (by first | omega | (split <;> omega)) dX6_odds_121 (fun hc121 => ?_) (fun hc121 => by (exfalso; omega))
      refine PW.iconst (v := nI 0) (by decide) dX6_odds_138 ?_
      refine PW.istore (by decide) dX6_odds_139 (?_ : PW _ _ _ _ [(0, _), (1, _), (2, _), (3, _), (4, _), (5, _), (6, _), (8, _), (9, _)] _ _ _)
      skip
      refine PW.loop (I := fun i m => St b s sc m ∧ Ag (fun r => r ≠ 114 ∧ r ≠ 115) mem m ∧ (∀ z, z < 6 → jv m 114 z = lN (c z)) ∧ ∀ z, z < 6 → jv m 115 z = lN (spN R (R 14 t) q c i z)) (fun i _ => [(0, .ref 95), (1, .int (nI t)), (2, .int (nI k)), (3, .int (nI q)), (4, .int (nI n)), (5, .int (nI x)), (6, .long (lN (lo * 10))), (8, .int (nI j)), (9, .int (nI i))]) (fun _ m => m) (R 0 0) (fun i m hi hI ih => ?_) (fun m hI => ?_) _ ⟨hS, hA, hv, hu⟩
      · obtain ⟨hS, hA, hv, hu⟩ := hI
        have hM2 := hM.ag hA (by decide) (fun r h1 h2 => by omega)
        have hbl := behN_lt hD (u := R 14 t) hi
        have es : ∀ z, spN R (R 14 t) q c (i + 1) z = spN R (R 14 t) q c i z + (if z = behN R (R 14 t) i then c i * q else 0) + (if z = i then c i * (10 - q) else 0) := fun _ => rfl
        refine PW.iload rfl dX6_odds_141 ?_
        refine PW.aload_n rfl rfl dX6_odds_143 ?_
        refine PW.gI hS.1 (by decide) rfl (hM2.1) fX6_78 dX6_odds_144 ?_
        refine PW.icmp_geN 209 (by decide) (by first | omega | (split <;> omega)) (by first | omega | (split <;> omega)) dX6_odds_147 (fun hc147 => by (exfalso; omega)) (fun hc147 => ?_)
        refine PW.aload_n rfl rfl dX6_odds_150 ?_
        refine PW.gR hS.1 (by decide) rfl fX6_69 dX6_odds_151 ?_
        refine PW.aload_n rfl rfl dX6_odds_154 ?_
        refine PW.iload rfl dX6_odds_155 ?_
        refine PW.aload_n rfl rfl dX6_odds_157 ?_
        refine PW.gR hS.1 (by decide) rfl fX6_26 dX6_odds_158 ?_
        refine PW.iload_n rfl rfl dX6_odds_161 ?_
        refine PW.aI hS.1 (by decide) rfl (by exact rfl) ⟨by omega, by decide⟩ ((hM2.2.2.2.2.2 t ht).2.1) dX6_odds_162 ?_
        refine PW.cV (ci := 6) (j := 0) _ hS.1 (by decide) rfl kX6_218 (m_through hS hM2 hD hi d14) rfl rfl (Nat.le_of_ble_eq_true rfl) rfl ⟨by decide, by decide⟩ ⟨Nat.zero_le _, Nat.zero_le _⟩ dX6_odds_163 ?_
        refine PW.dup2 rfl rfl dX6_odds_166 ?_
        refine PW.aL hS.1 (by decide) rfl (by exact rfl) ⟨by omega, by decide⟩ (hu _ (by omega)) dX6_odds_167 ?_
        refine PW.iload_n rfl rfl dX6_odds_168 ?_
        refine PW.i2l dX6_odds_169 ?_
        refine PW.aload_n rfl rfl dX6_odds_170 ?_
        refine PW.gR hS.1 (by decide) rfl fX6_65 dX6_odds_171 ?_
        refine PW.iload rfl dX6_odds_174 ?_
        refine PW.aL hS.1 (by decide) rfl (by exact rfl) ⟨by omega, by decide⟩ (hv _ (by omega)) dX6_odds_176 ?_
        refine PW.lmul dX6_odds_177 ?_
        refine PW.ladd dX6_odds_178 ?_
        rw [nI_l (by omega), lN_mul, lN_add, Nat.mul_comm q]
        refine PW.uL hS (by decide) rfl (by exact rfl) ⟨by omega, by decide⟩ dX6_odds_179 (fun hS hw179 => ?_)
        have hu2 : ∀ z, z < 6 → jv (wJ m 115 (behN R (R 14 t) i) (lN (spN R (R 14 t) q c i (behN R (R 14 t) i) + c i * q))) 115 z = lN (spN R (R 14 t) q c i z + if z = behN R (R 14 t) i then c i * q else 0) := fun z hz => by rw [hw179]; by_cases h : z = behN R (R 14 t) i; (rw [if_pos h, if_pos h, h]); (rw [if_neg h, if_neg h]; exact hu z hz)
        refine PW.aload_n rfl rfl dX6_odds_180 ?_
        refine PW.gR hS.1 (by decide) rfl fX6_69 dX6_odds_181 ?_
        refine PW.iload rfl dX6_odds_184 ?_
        refine PW.dup2 rfl rfl dX6_odds_186 ?_
        refine PW.aL hS.1 (by decide) rfl (by exact rfl) ⟨by omega, by decide⟩ (hu2 _ (by omega)) dX6_odds_187 ?_
        refine PW.bipush (v := nI 10) (by decide) dX6_odds_188 ?_
        refine PW.iload_n rfl rfl dX6_odds_190 ?_
        refine PW.isubN (by omega) dX6_odds_191 ?_
        refine PW.i2l dX6_odds_192 ?_
        refine PW.aload_n rfl rfl dX6_odds_193 ?_
        refine PW.gR hS.1 (by decide) rfl fX6_65 dX6_odds_194 ?_
        refine PW.iload rfl dX6_odds_197 ?_
        refine PW.aL hS.1 (by decide) rfl (by exact rfl) ⟨by omega, by decide⟩ ((jv_wJ_ne (by decide)).trans (hv _ (by omega))) dX6_odds_199 ?_
        refine PW.lmul dX6_odds_200 ?_
        refine PW.ladd dX6_odds_201 ?_
        rw [nI_l (by omega), lN_mul, lN_add, Nat.mul_comm (10 - q)]
        refine PW.uL hS (by decide) rfl (by exact rfl) ⟨by omega, by decide⟩ dX6_odds_202 (fun hS hw202 => ?_)
        refine PW.iincN rfl (by decide) dX6_odds_203 (?_ : PW _ _ _ _ [(0, _), (1, _), (2, _), (3, _), (4, _), (5, _), (6, _), (8, _), (9, _)] _ _ _)
        refine PW.goto 141 (by decide) dX6_odds_206 ?_
        refine ih _ ⟨hS, (hA.tr (Ag.wJ (fun h => h.2 rfl))).tr (Ag.wJ (fun h => h.2 rfl)), fun z hz => by rw [jv_wJ_ne (by decide), jv_wJ_ne (by decide)]; exact hv z hz, fun z hz => ?_⟩
        rw [hw202, es]
        by_cases h : z = i
        · rw [if_pos h, if_pos h, h]
        · rw [if_neg h, if_neg h, hu2 z hz]; rfl
      obtain ⟨hS, hA, hv, hu⟩ := hI
      have hM2 := hM.ag hA (by decide) (fun r h1 h2 => by omega)
      refine PW.iload rfl dX6_odds_141 ?_
      refine PW.aload_n rfl rfl dX6_odds_143 ?_
      refine PW.gI hS.1 (by decide) rfl (hM2.1) fX6_78 dX6_odds_144 ?_
      refine PW.icmp_geN 209 (by decide) (by first | omega | (split <;> omega)) (by first | omega | (split <;> omega)) dX6_odds_147 (fun hc147 => ?_) (fun hc147 => by (exfalso; omega))
      refine PW.iconst (v := nI 0) (by decide) dX6_odds_209 ?_
      refine PW.istore (by decide) dX6_odds_210 (?_ : PW _ _ _ _ [(0, _), (1, _), (2, _), (3, _), (4, _), (5, _), (6, _), (8, _), (9, _)] _ _ _)
      skip
      generalize spN R (R 14 t) q c (R 0 0) = c2 at hu ih
      refine PW.loop (I := fun i m => St b s sc m ∧ Ag (fun r => r ≠ 114 ∧ r ≠ 115) mem m ∧ (∀ z, z < i → jv m 114 z = lN (c2 z)) ∧ ∀ z, z < 6 → jv m 115 z = lN (c2 z)) (fun i _ => [(0, .ref 95), (1, .int (nI t)), (2, .int (nI k)), (3, .int (nI q)), (4, .int (nI n)), (5, .int (nI x)), (6, .long (lN (lo * 10))), (8, .int (nI j)), (9, .int (nI i))]) (fun _ m => m) 6 (fun i m hi hI ih => ?_) (fun m hI => ?_) _ ⟨hS, hA, fun z hz => absurd hz (Nat.not_lt_zero _), hu⟩
      · obtain ⟨hS, hA, hv, hu⟩ := hI
        refine PW.iload rfl dX6_odds_212 ?_
        refine PW.bipush (v := nI 6) (by decide) dX6_odds_214 ?_
        refine PW.icmp_geN 239 (by decide) (by first | omega | (split <;> omega)) (by first | omega | (split <;> omega)) dX6_odds_216 (fun hc216 => by (exfalso; omega)) (fun hc216 => ?_)
        refine PW.aload_n rfl rfl dX6_odds_219 ?_
        refine PW.gR hS.1 (by decide) rfl fX6_65 dX6_odds_220 ?_
        refine PW.iload rfl dX6_odds_223 ?_
        refine PW.aload_n rfl rfl dX6_odds_225 ?_
        refine PW.gR hS.1 (by decide) rfl fX6_69 dX6_odds_226 ?_
        refine PW.iload rfl dX6_odds_229 ?_
        refine PW.aL hS.1 (by decide) rfl (by exact rfl) ⟨by omega, by decide⟩ (hu _ (by omega)) dX6_odds_231 ?_
        refine PW.uL hS (by decide) rfl (by exact rfl) ⟨by omega, by decide⟩ dX6_odds_232 (fun hS hw232 => ?_)
        refine PW.iincN rfl (by decide) dX6_odds_233 (?_ : PW _ _ _ _ [(0, _), (1, _), (2, _), (3, _), (4, _), (5, _), (6, _), (8, _), (9, _)] _ _ _)
        refine PW.goto 212 (by decide) dX6_odds_236 ?_
        refine ih _ ⟨hS, hA.tr (Ag.wJ (fun h => h.1 rfl)), fun z hz => ?_, fun z hz => by rw [jv_wJ_ne (by decide)]; exact hu z hz⟩
        rw [hw232]
        by_cases h : z = i
        · rw [if_pos h, h]
        · rw [if_neg h]; exact hv z (by omega)
      obtain ⟨hS, hA, hv, hu⟩ := hI
      refine PW.iload rfl dX6_odds_212 ?_
      refine PW.bipush (v := nI 6) (by decide) dX6_odds_214 ?_
      refine PW.icmp_geN 239 (by decide) (by first | omega | (split <;> omega)) (by first | omega | (split <;> omega)) dX6_odds_216 (fun hc216 => ?_) (fun hc216 => by (exfalso; omega))
      refine PW.iincN rfl (by decide) dX6_odds_239 (?_ : PW _ _ _ _ [(0, _), (1, _), (2, _), (3, _), (4, _), (5, _), (6, _), (8, _), (9, _)] _ _ _)
      refine PW.goto 99 (by decide) dX6_odds_242 ?_
      refine PW.drop _ (fun r h => List.mem_of_mem_take (i := 8) h) ?_
      exact ih _ ⟨hS, hA, hv⟩
    · obtain ⟨hS, hA, hv⟩ := hI
      have hup := chN_le hD (u := R 14 t) (p := q) (a := w t) (k := k) (n := n) (by omega) (by omega) (by omega)
      have h10 : 10 ^ n ≤ 1000000 := Nat.pow_le_pow_right (n := 10) (by decide) (show n ≤ 6 by omega)
      have h10p : 0 < 10 ^ n := Nat.pow_pos (by decide)
      have hvk := hv k (by omega)
      generalize 10 ^ n = lo at hup h10 h10p ⊢
      generalize chN R (R 14 t) q (w t) n k = up at hup hvk ⊢
      have hgp : 0 < Nat.gcd up lo := Nat.gcd_pos_of_pos_right up h10p
      have hgl : Nat.gcd up lo ≤ lo := Nat.gcd_le_right up h10p
      have hgn : ¬ lN (Nat.gcd up lo) = 0 := fun z => absurd ((pk_lEQ (by omega) (by decide)).mp (z.trans (show (0 : Int64) = lN 0 from rfl))) (by omega)
      refine PW.iload rfl dX6_odds_99 ?_
      refine PW.iload rfl dX6_odds_101 ?_
      refine PW.icmp_geN 245 (by decide) (by first | omega | (split <;> omega)) (by first | omega | (split <;> omega)) dX6_odds_103 (fun hc103 => ?_) (fun hc103 => by (exfalso; omega))
      refine PW.aload_n rfl rfl dX6_odds_245 ?_
      refine PW.gR hS.1 (by decide) rfl fX6_65 dX6_odds_246 ?_
      refine PW.iload_n rfl rfl dX6_odds_249 ?_
      refine PW.aL hS.1 (by decide) rfl (by exact rfl) ⟨by omega, by decide⟩ (hvk) dX6_odds_250 ?_
      refine PW.lload rfl dX6_odds_251 ?_
      refine PW.cS _ kX6_241 (m_common (by omega) (by omega) m) rfl rfl (Nat.le_of_ble_eq_true rfl) ⟨by decide, by decide⟩ ⟨Nat.zero_le _, Nat.zero_le _⟩ dX6_odds_253 ?_
      refine PW.lstore (by decide) dX6_odds_256 (?_ : PW _ _ _ _ [(0, _), (1, _), (2, _), (3, _), (4, _), (5, _), (6, _), (8, _)] _ _ _)
      refine PW.iload rfl dX6_odds_258 ?_
      refine PW.if_ne 275 (by decide) dX6_odds_260 (fun hc260 => ?_) (fun hc260 => ?_)
      · refine PW.lload rfl dX6_odds_275 ?_
        refine PW.lload rfl dX6_odds_277 ?_
        refine PW.ldiv (by assumption) dX6_odds_279 ?_
        rw [pk_lDiv (by omega) (by omega) (by omega)]
        refine PW.l2i dX6_odds_280 ?_
        rw [lN_i]
        refine PW.iret rfl (Nat.le_refl _) (Nat.le_refl _) dX6_odds_281 ?_
        first | exact ⟨by rw [if_pos hc260], hS, hA⟩ | exact ⟨by rw [if_neg hc260], hS, hA⟩
      · refine PW.aload_n rfl rfl dX6_odds_263 ?_
        refine PW.gR hS.1 (by decide) rfl fX6_65 dX6_odds_264 ?_
        refine PW.iload_n rfl rfl dX6_odds_267 ?_
        refine PW.aL hS.1 (by decide) rfl (by exact rfl) ⟨by omega, by decide⟩ (hvk) dX6_odds_268 ?_
        refine PW.lload rfl dX6_odds_269 ?_
        refine PW.ldiv (by assumption) dX6_odds_271 ?_
        refine PW.goto 280 (by decide) dX6_odds_272 ?_
        rw [pk_lDiv (by omega) (by omega) (by omega)]
        refine PW.l2i dX6_odds_280 ?_
        rw [lN_i]
        refine PW.iret rfl (Nat.le_refl _) (Nat.le_refl _) dX6_odds_281 ?_
        first | exact ⟨by rw [if_pos hc260], hS, hA⟩ | exact ⟨by rw [if_neg hc260], hS, hA⟩
  · rw [oddS, if_neg hg]
    refine Ret.of (by decide) (Nat.le_of_ble_eq_true rfl) fun l G => ?_
    show PW _ _ _ _ [(0, _), (1, _), (2, _), (3, _), (4, _), (5, _)] _ _ _
    refine PW.aload_n rfl rfl dX6_odds_0 ?_
    refine PW.iload_n rfl rfl dX6_odds_1 ?_
    refine PW.cV (ci := 6) (j := 0) _ hS.1 (by decide) rfl kX6_193 (m_isThing hS hM hD _) rfl rfl (Nat.le_of_ble_eq_true rfl) rfl ⟨by decide, by decide⟩ ⟨Nat.zero_le _, Nat.zero_le _⟩ dX6_odds_2 ?_
    refine PW.if_eqB 52 (by decide) dX6_odds_5 (fun hc5 => ?_) (fun hc5 => ?_)
    · refine PW.iconst (v := -1) (by decide) dX6_odds_52 ?_
      refine PW.iret rfl (Nat.le_refl _) (Nat.le_refl _) dX6_odds_53 ?_
      exact ⟨rfl, hS, Ag.rf⟩
    · refine PW.aload_n rfl rfl dX6_odds_8 ?_
      refine PW.iload_n rfl rfl dX6_odds_9 ?_
      refine PW.cV (ci := 6) (j := 0) _ hS.1 (by decide) rfl kX6_178 (m_isPocket hS hM hD _) rfl rfl (Nat.le_of_ble_eq_true rfl) rfl ⟨by decide, by decide⟩ ⟨Nat.zero_le _, Nat.zero_le _⟩ dX6_odds_10 ?_
      refine PW.if_eqB 52 (by decide) dX6_odds_13 (fun hc13 => ?_) (fun hc13 => ?_)
      · refine PW.iconst (v := -1) (by decide) dX6_odds_52 ?_
        refine PW.iret rfl (Nat.le_refl _) (Nat.le_refl _) dX6_odds_53 ?_
        exact ⟨rfl, hS, Ag.rf⟩
      · refine PW.iload_n rfl rfl dX6_odds_16 ?_
        refine PW.i2l dX6_odds_17 ?_
        refine PW.lconst (v := 0) (by decide) dX6_odds_18 ?_
        refine PW.ldc2 cX6_237 dX6_odds_19 ?_
        refine PW.cS _ kX6_82 (m_inR q (h := 10) (n := 11) rfl mem) rfl rfl (Nat.le_of_ble_eq_true rfl) ⟨by decide, by decide⟩ ⟨Nat.zero_le _, Nat.zero_le _⟩ dX6_odds_22 ?_
        refine PW.if_eqB 52 (by decide) dX6_odds_25 (fun hc25 => ?_) (fun hc25 => ?_)
        · refine PW.iconst (v := -1) (by decide) dX6_odds_52 ?_
          refine PW.iret rfl (Nat.le_refl _) (Nat.le_refl _) dX6_odds_53 ?_
          exact ⟨rfl, hS, Ag.rf⟩
        · refine PW.iload rfl dX6_odds_28 ?_
          refine PW.i2l dX6_odds_30 ?_
          refine PW.lconst (v := 0) (by decide) dX6_odds_31 ?_
          refine PW.ldc2 cX6_239 dX6_odds_32 ?_
          refine PW.cS _ kX6_82 (m_inR n (h := 6) (n := 7) rfl mem) rfl rfl (Nat.le_of_ble_eq_true rfl) ⟨by decide, by decide⟩ ⟨Nat.zero_le _, Nat.zero_le _⟩ dX6_odds_35 ?_
          refine PW.if_eqB 52 (by decide) dX6_odds_38 (fun hc38 => ?_) (fun hc38 => ?_)
          · refine PW.iconst (v := -1) (by decide) dX6_odds_52 ?_
            refine PW.iret rfl (Nat.le_refl _) (Nat.le_refl _) dX6_odds_53 ?_
            exact ⟨rfl, hS, Ag.rf⟩
          · refine PW.iload rfl dX6_odds_41 ?_
            refine PW.i2l dX6_odds_43 ?_
            refine PW.lconst (v := 0) (by decide) dX6_odds_44 ?_
            refine PW.lconst (v := 1) (by decide) dX6_odds_45 ?_
            refine PW.cS _ kX6_82 (m_inR x (h := 1) (n := 2) rfl mem) rfl rfl (Nat.le_of_ble_eq_true rfl) ⟨by decide, by decide⟩ ⟨Nat.zero_le _, Nat.zero_le _⟩ dX6_odds_46 ?_
            refine PW.if_neB 54 (by decide) dX6_odds_49 (fun hc49 => by exact absurd ⟨hc5, hc13, hc49, hc25, hc38⟩ hg) (fun hc49 => ?_)
            refine PW.iconst (v := -1) (by decide) dX6_odds_52 ?_
            refine PW.iret rfl (Nat.le_refl _) (Nat.le_refl _) dX6_odds_53 ?_
            exact ⟨rfl, hS, Ag.rf⟩
end ODDM
