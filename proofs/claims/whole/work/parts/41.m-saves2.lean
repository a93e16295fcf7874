/-! ===== saves: the model's walk ===== -/
section MSV
variable {b s : Nat} {sc : pw_E} {mem : pw_M} {R : DR} {w : Nat → Nat} {p : Int32} {d : Nat} {e K : Nat}
theorem m_farTr {m3 m : pw_M} (hS : St b s sc m3) (hM : MD m R) (hD : Dat R) (hN : MN m (R 1 0) w p d) (hw : ∀ t, t < R 1 0 → w t < R 0 0) {t k u v : Nat} (ht : t < R 1 0) (hk : k < R 0 0) (hu : u < 6) (hv : v < 6) (hA : Ag (fun r => r ≠ 99) m m3) (h1 : ∀ z, iv m3 99 z = if z = v * 6 + u then nI (R 12 (6 * v + u) ||| 2 ^ R 13 t) else if z = 6 * u + v then nI (R 12 (6 * u + v) ||| 2 ^ R 13 t) else iv m 99 z) : Ret 5 0 0 mX6_farOf [.ref 95, .int (nI t), .int (nI k), .int (nI 1)] m3 (fun x m4 => x = some (.int (nI (svT R (R 13 t) (w t) k (6 * u + v)))) ∧ St b s sc m4 ∧ Ag (fun r => r ≠ 110) m3 m4) := by
  have d13 := (hD.2.2.2.2.2.2 t ht).1
  have hM3 : MD m3 (trR R (R 13 t) u v) := MD.tre hM hA (by decide) (fun q _ _ h => h) trR_ne (fun a c ha hc => by
    rw [h1]
    show _ = nI (if 6 * a + c = 6 * u + v ∨ 6 * a + c = 6 * v + u then R 12 (6 * a + c) ||| 2 ^ R 13 t else R 12 (6 * a + c))
    by_cases q1 : 6 * a + c = v * 6 + u
    · rw [if_pos q1, if_pos (show 6 * a + c = 6 * u + v ∨ 6 * a + c = 6 * v + u by omega), show 6 * a + c = 6 * v + u by omega]
    · rw [if_neg q1]
      by_cases q2 : 6 * a + c = 6 * u + v
      · rw [if_pos q2, if_pos (show 6 * a + c = 6 * u + v ∨ 6 * a + c = 6 * v + u by omega), q2]
      · rw [if_neg q2, if_neg (show ¬ (6 * a + c = 6 * u + v ∨ 6 * a + c = 6 * v + u) by omega)]
        exact (hM.2.2.2.2.1 a c ha hc).2)
  have h := m_farOf (R := trR R (R 13 t) u v) hS hM3 (trR_dat hD d13) (hN.ag hA (by decide)) hw (pr := true) ht hk
  have e1 : lstM (trR R (R 13 t) u v) (R 13 t) true (w t) k = svT R (R 13 t) (w t) k (6 * u + v) := by
    unfold svT
    rw [show (6 * u + v) / 6 = u by omega, show (6 * u + v) % 6 = v by omega]
  rw [← e1]
  exact h
set_option maxHeartbeats 8000000 in
theorem m_saves (hS : St b s sc mem) (hM : MD mem R) (hD : Dat R) (hY : Sym R) (hN : MN mem (R 1 0) w p d) (hw : ∀ t, t < R 1 0 → w t < R 0 0) (t k : Int32) : Ret 6 0 0 mX6_saves [.ref 95, .int t, .int k] mem (fun x m1 => x = some (.int (savS R w t k)) ∧ St b s sc m1 ∧ Ag (fun r => r ≠ 99 ∧ r ≠ 110) mem m1 ∧ MD m1 R) := by
  have h6 := hD.1
  have hT := hD.2.1
  by_cases hg : inR t (R 1 0) = true ∧ inR k (R 0 0) = true
  · rw [savS, if_pos hg]
    obtain ⟨g1, g2⟩ := hg
    obtain ⟨t, ht, rfl⟩ := inR_of g1
    obtain ⟨k, hk, rfl⟩ := inR_of g2
    rw [cl_nI (by omega), cl_nI (by omega)]
    have hwt := hw t ht
    have d13 := (hD.2.2.2.2.2.2 t ht).1
    have hl1 := m_farOf hS hM hD hN hw (pr := true) ht hk
    rw [show bI true = nI 1 from rfl] at hl1
    refine Ret.of (by decide) (Nat.le_of_ble_eq_true rfl) fun l G => ?_
    show PW _ _ _ _ [(0, _), (1, _), (2, _)] _ _ _
    refine PW.aload_n rfl rfl dX6_saves_0 ?_
    refine PW.iload_n rfl rfl dX6_saves_1 ?_
    refine PW.cV (ci := 6) (j := 0) _ hS.1 (by decide) rfl kX6_193 (m_isThing hS hM hD _) rfl rfl (Nat.le_of_ble_eq_true rfl) rfl ⟨by decide, by decide⟩ ⟨Nat.zero_le _, Nat.zero_le _⟩ dX6_saves_2 ?_
    refine PW.if_eqB 16 (by decide) dX6_saves_5 (fun hc5 => by (first | (exfalso; omega) | (rw [g1] at hc5; cases hc5) | (rw [g2] at hc5; cases hc5))) (fun hc5 => ?_)
    refine PW.aload_n rfl rfl dX6_saves_8 ?_
    refine PW.iload_n rfl rfl dX6_saves_9 ?_
    refine PW.cV (ci := 6) (j := 0) _ hS.1 (by decide) rfl kX6_178 (m_isPocket hS hM hD _) rfl rfl (Nat.le_of_ble_eq_true rfl) rfl ⟨by decide, by decide⟩ ⟨Nat.zero_le _, Nat.zero_le _⟩ dX6_saves_10 ?_
    refine PW.if_neB 18 (by decide) dX6_saves_13 (fun hc13 => ?_) (fun hc13 => by (first | (exfalso; omega) | (rw [g1] at hc13; cases hc13) | (rw [g2] at hc13; cases hc13)))
    refine PW.aload_n rfl rfl dX6_saves_18 ?_
    refine PW.iload_n rfl rfl dX6_saves_19 ?_
    refine PW.iload_n rfl rfl dX6_saves_20 ?_
    refine PW.iconst (v := nI 1) (by decide) dX6_saves_21 ?_
    refine PW.dV (ci := 6) (j := 0) _ hS.1 (by decide) rfl kX6_223 (hl1) rfl rfl (Nat.le_of_ble_eq_true rfl) rfl ⟨by decide, by decide⟩ ⟨Nat.zero_le _, Nat.zero_le _⟩ dX6_saves_22 (fun v m1 q => ?_)
    obtain ⟨rfl, hS, hA⟩ := q
    have hM1 := hM.ag hA (by decide) (fun r h1 h2 => by omega)
    refine PW.istore_n rfl (by decide) dX6_saves_25 (?_ : PW _ _ _ _ [(0, _), (1, _), (2, _), (3, _)] _ _ _)
    refine PW.bipush (v := -9) (by decide) dX6_saves_26 ?_
    refine PW.istore (by decide) dX6_saves_28 (?_ : PW _ _ _ _ [(0, _), (1, _), (2, _), (3, _), (4, _)] _ _ _)
    refine PW.iconst (v := nI 1) (by decide) dX6_saves_30 ?_
    refine PW.aload_n rfl rfl dX6_saves_31 ?_
    refine PW.gR hS.1 (by decide) rfl fX6_23 dX6_saves_32 ?_
    refine PW.iload_n rfl rfl dX6_saves_35 ?_
    refine PW.aI hS.1 (by decide) rfl (by exact rfl) ⟨by omega, by decide⟩ ((hM1.2.2.2.2.2 t ht).1) dX6_saves_36 ?_
    refine PW.ishl1 (by omega) dX6_saves_37 ?_
    refine PW.istore (by decide) dX6_saves_38 (?_ : PW _ _ _ _ [(0, _), (1, _), (2, _), (3, _), (4, _), (5, _)] _ _ _)
    refine PW.iconst (v := nI 0) (by decide) dX6_saves_40 ?_
    refine PW.istore (by decide) dX6_saves_41 (?_ : PW _ _ _ _ [(0, _), (1, _), (2, _), (3, _), (4, _), (5, _), (6, _)] _ _ _)
    skip
    refine PW.loop (I := fun i m => St b s sc m ∧ Ag (fun r => r ≠ 99 ∧ r ≠ 110) mem m ∧ MD m R) (fun i _ => [(0, .ref 95), (1, .int (nI t)), (2, .int (nI k)), (3, .int (nI (svN R (R 13 t) (w t) k i).1)), (4, .int (svN R (R 13 t) (w t) k i).2), (5, .int (nI (2 ^ R 13 t))), (6, .int (nI i))]) (fun _ m => m) 36 (fun i m hi hI ih => ?_) (fun m hI => ?_) _ ⟨hS, hA.mono (fun r h => h.2), hM1⟩
    · obtain ⟨hS, hA, hM2⟩ := hI
      obtain ⟨u, v, hu, hv6, rfl⟩ : ∃ u v, u < 6 ∧ v < 6 ∧ i = 6 * u + v := ⟨i / 6, i % 6, by omega, by omega, by omega⟩
      have d1 : (6 * u + v) / 6 = u := by omega
      have d2 : (6 * u + v) % 6 = v := by omega
      have hm := svN_le (R := R) (t := R 13 t) (a := w t) (k := k) (6 * u + v)
      have hm2 := lstM_le (R := R) (t := R 13 t) (pr := true) (a := w t) (k := k)
      have hm3 : svT R (R 13 t) (w t) k (6 * u + v) ≤ 100000 := lstM_le
      have h2t : 2 ^ R 13 t < 64 := Nat.pow_lt_pow_right (n := 6) (a := 2) (by decide) d13
      have c1 := hM2.2.2.2.2.1 u v hu hv6
      have c2 := hM2.2.2.2.2.1 v u hv6 hu
      have l1 := hD.2.2.2.2.2.1 u v hu hv6
      have es : svN R (R 13 t) (w t) k (6 * u + v + 1) = if svC R (R 13 t) (6 * u + v) = true ∧ svT R (R 13 t) (w t) k (6 * u + v) < (svN R (R 13 t) (w t) k (6 * u + v)).1 then (svT R (R 13 t) (w t) k (6 * u + v), nI (100 * u + 10 * v + R 13 t)) else svN R (R 13 t) (w t) k (6 * u + v) := by
        rw [svN, d1, d2]
      refine PW.iload rfl dX6_saves_43 ?_
      refine PW.bipush (v := nI 36) (by decide) dX6_saves_45 ?_
      refine PW.icmp_geN 219 (by decide) (by first | omega | (split <;> omega)) (by first | omega | (split <;> omega)) dX6_saves_47 (fun hc47 => by (exfalso; omega)) (fun hc47 => ?_)
      refine PW.iload rfl dX6_saves_50 ?_
      refine PW.bipush (v := nI 6) (by decide) dX6_saves_52 ?_
      refine PW.iremN (by omega) dX6_saves_54 ?_
      refine PW.bipush (v := nI 6) (by decide) dX6_saves_55 ?_
      refine PW.imulN dX6_saves_57 ?_
      refine PW.iload rfl dX6_saves_58 ?_
      refine PW.bipush (v := nI 6) (by decide) dX6_saves_60 ?_
      refine PW.idivN (by omega) dX6_saves_62 ?_
      refine PW.iaddN dX6_saves_63 ?_
      refine PW.istore (by decide) dX6_saves_64 (?_ : PW _ _ _ _ [(0, _), (1, _), (2, _), (3, _), (4, _), (5, _), (6, _), (7, _)] _ _ _)
      refine PW.iload rfl dX6_saves_66 ?_
      refine PW.bipush (v := nI 6) (by decide) dX6_saves_68 ?_
      refine PW.idivN (by omega) dX6_saves_70 ?_
      refine PW.iload rfl dX6_saves_71 ?_
      refine PW.bipush (v := nI 6) (by decide) dX6_saves_73 ?_
      refine PW.iremN (by omega) dX6_saves_75 ?_
      skip
      rw [d1, d2]
      have c3 : iv m 99 (v * 6 + u) = nI (R 12 (6 * u + v)) := by rw [Nat.mul_comm, c2.2, hY v u hv6 hu]
      have hy := hY v u hv6 hu
      have hN2 := hN.ag hA (by decide)
      have n1 : v ≤ u → svN R (R 13 t) (w t) k (6 * u + v + 1) = svN R (R 13 t) (w t) k (6 * u + v) := fun h => svN_skip (svC_row hv6 h)
      have n2 : u < v → (R 9 u).testBit v = false → svN R (R 13 t) (w t) k (6 * u + v + 1) = svN R (R 13 t) (w t) k (6 * u + v) := fun h h2 => svN_skip (by rw [svC_in hv6 h, h2, Bool.false_and])
      have n3 : u < v → R 12 (6 * u + v) &&& 2 ^ R 13 t ≠ 0 → svN R (R 13 t) (w t) k (6 * u + v + 1) = svN R (R 13 t) (w t) k (6 * u + v) := fun h h2 => svN_skip (by
        rw [svC_in hv6 h]
        cases hb : (R 12 (6 * u + v)).testBit (R 13 t)
        · exact absurd (and_bit.mpr hb) h2
        · rw [Bool.not_true, Bool.and_false])
      have n4 : (svN R (R 13 t) (w t) k (6 * u + v)).1 ≤ svT R (R 13 t) (w t) k (6 * u + v) → svN R (R 13 t) (w t) k (6 * u + v + 1) = svN R (R 13 t) (w t) k (6 * u + v) := fun h => by rw [es, if_neg (fun q => by omega)]
      have y1 : u < v → (R 9 u).testBit v = true → R 12 (6 * u + v) &&& 2 ^ R 13 t = 0 → svT R (R 13 t) (w t) k (6 * u + v) < (svN R (R 13 t) (w t) k (6 * u + v)).1 → svN R (R 13 t) (w t) k (6 * u + v + 1) = (svT R (R 13 t) (w t) k (6 * u + v), nI (100 * u + 10 * v + R 13 t)) := fun h h2 h3 h4 => by rw [es, if_pos ⟨by rw [svC_in hv6 h, h2, and_bit.mp h3]; rfl, h4⟩]
      have hnd : R 12 (6 * u + v) &&& 2 ^ R 13 t ≤ R 12 (6 * u + v) := Nat.and_le_left
      refine PW.icmp_geN 213 (by decide) (by first | omega | (split <;> omega)) (by first | omega | (split <;> omega)) dX6_saves_76 (fun hc76 => ?_) (fun hc76 => ?_)
      · refine PW.iincN rfl (by decide) dX6_saves_213 (?_ : PW _ _ _ _ [(0, _), (1, _), (2, _), (3, _), (4, _), (5, _), (6, _), (7, _)] _ _ _)
        refine PW.goto 43 (by decide) dX6_saves_216 ?_
        refine PW.drop _ (fun r h => List.mem_of_mem_take (i := 7) h) ?_
        first | (exfalso; omega) | (rw [n1 hc76] at ih; exact ih _ ⟨hS, hA, hM2⟩) | (rw [n2 hc76 hc86] at ih; exact ih _ ⟨hS, hA, hM2⟩) | (rw [n3 hc76 hc99] at ih; exact ih _ ⟨hS, hA, hM2⟩) | (rw [n4 hc166] at ih; exact ih _ ⟨hS, hA.tr hA5, hM5⟩) | (rw [y1 hc76 hc86 hc99 hc166] at ih; exact ih _ ⟨hS, hA.tr hA5, hM5⟩)
      · refine PW.aload_n rfl rfl dX6_saves_79 ?_
        refine PW.gR hS.1 (by decide) rfl fX6_16 dX6_saves_80 ?_
        refine PW.iload rfl dX6_saves_83 ?_
        refine PW.aZ hS.1 (by decide) rfl (by exact rfl) ⟨by omega, by decide⟩ (c1.1) dX6_saves_85 ?_
        refine PW.if_eqB 213 (by decide) dX6_saves_86 (fun hc86 => ?_) (fun hc86 => ?_)
        · refine PW.iincN rfl (by decide) dX6_saves_213 (?_ : PW _ _ _ _ [(0, _), (1, _), (2, _), (3, _), (4, _), (5, _), (6, _), (7, _)] _ _ _)
          refine PW.goto 43 (by decide) dX6_saves_216 ?_
          refine PW.drop _ (fun r h => List.mem_of_mem_take (i := 7) h) ?_
          first | (exfalso; omega) | (rw [n1 hc76] at ih; exact ih _ ⟨hS, hA, hM2⟩) | (rw [n2 hc76 hc86] at ih; exact ih _ ⟨hS, hA, hM2⟩) | (rw [n3 hc76 hc99] at ih; exact ih _ ⟨hS, hA, hM2⟩) | (rw [n4 hc166] at ih; exact ih _ ⟨hS, hA.tr hA5, hM5⟩) | (rw [y1 hc76 hc86 hc99 hc166] at ih; exact ih _ ⟨hS, hA.tr hA5, hM5⟩)
        · refine PW.aload_n rfl rfl dX6_saves_89 ?_
          refine PW.gR hS.1 (by decide) rfl fX6_20 dX6_saves_90 ?_
          refine PW.iload rfl dX6_saves_93 ?_
          refine PW.aI hS.1 (by decide) rfl (by exact rfl) ⟨by omega, by decide⟩ (c1.2) dX6_saves_95 ?_
          refine PW.iload rfl dX6_saves_96 ?_
          refine PW.iandN dX6_saves_98 ?_
          refine PW.if_neN 213 (by decide) (by first | omega | (split <;> omega)) dX6_saves_99 (fun hc99 => ?_) (fun hc99 => ?_)
          · refine PW.iincN rfl (by decide) dX6_saves_213 (?_ : PW _ _ _ _ [(0, _), (1, _), (2, _), (3, _), (4, _), (5, _), (6, _), (7, _)] _ _ _)
            refine PW.goto 43 (by decide) dX6_saves_216 ?_
            refine PW.drop _ (fun r h => List.mem_of_mem_take (i := 7) h) ?_
            first | (exfalso; omega) | (rw [n1 hc76] at ih; exact ih _ ⟨hS, hA, hM2⟩) | (rw [n2 hc76 hc86] at ih; exact ih _ ⟨hS, hA, hM2⟩) | (rw [n3 hc76 hc99] at ih; exact ih _ ⟨hS, hA, hM2⟩) | (rw [n4 hc166] at ih; exact ih _ ⟨hS, hA.tr hA5, hM5⟩) | (rw [y1 hc76 hc86 hc99 hc166] at ih; exact ih _ ⟨hS, hA.tr hA5, hM5⟩)
          · have hb0 := and_bit.mp hc99
            have hcl := bit_clr _ l1 _ d13 hb0
            refine PW.aload_n rfl rfl dX6_saves_102 ?_
            refine PW.gR hS.1 (by decide) rfl fX6_20 dX6_saves_103 ?_
            refine PW.iload rfl dX6_saves_106 ?_
            refine PW.dup2 rfl rfl dX6_saves_108 ?_
            refine PW.aI hS.1 (by decide) rfl (by exact rfl) ⟨by omega, by decide⟩ (c1.2) dX6_saves_109 ?_
            refine PW.iload rfl dX6_saves_110 ?_
            refine PW.iorN dX6_saves_112 ?_
            refine PW.uI hS (by decide) rfl (by exact rfl) ⟨by omega, by decide⟩ dX6_saves_113 (fun hS hw113 => ?_)
            refine PW.aload_n rfl rfl dX6_saves_114 ?_
            refine PW.gR hS.1 (by decide) rfl fX6_20 dX6_saves_115 ?_
            refine PW.iload rfl dX6_saves_118 ?_
            refine PW.dup2 rfl rfl dX6_saves_120 ?_
            refine PW.aI hS.1 (by decide) rfl (by exact rfl) ⟨by omega, by decide⟩ ((hw113 _).trans ((if_neg (by omega)).trans c3)) dX6_saves_121 ?_
            refine PW.iload rfl dX6_saves_122 ?_
            refine PW.iorN dX6_saves_124 ?_
            refine PW.uI hS (by decide) rfl (by exact rfl) ⟨by omega, by decide⟩ dX6_saves_125 (fun hS hw125 => ?_)
            have h99 : ∀ z, iv (wI (wI m 99 (6 * u + v) (nI (R 12 (6 * u + v) ||| 2 ^ R 13 t))) 99 (v * 6 + u) (nI (R 12 (6 * u + v) ||| 2 ^ R 13 t))) 99 z = if z = v * 6 + u then nI (R 12 (6 * v + u) ||| 2 ^ R 13 t) else if z = 6 * u + v then nI (R 12 (6 * u + v) ||| 2 ^ R 13 t) else iv m 99 z := fun z => by rw [hw125, hw113, hy]
            refine PW.aload_n rfl rfl dX6_saves_126 ?_
            refine PW.iload_n rfl rfl dX6_saves_127 ?_
            refine PW.iload_n rfl rfl dX6_saves_128 ?_
            refine PW.iconst (v := nI 1) (by decide) dX6_saves_129 ?_
            refine PW.dV (ci := 6) (j := 0) _ hS.1 (by decide) rfl kX6_223 (m_farTr hS hM2 hD hN2 hw ht hk hu hv6 ((Ag.wI (fun h => h rfl)).tr (Ag.wI (fun h => h rfl))) h99) rfl rfl (Nat.le_of_ble_eq_true rfl) rfl ⟨by decide, by decide⟩ ⟨Nat.zero_le _, Nat.zero_le _⟩ dX6_saves_130 (fun v m1 q => ?_)
            obtain ⟨rfl, hS, hA4⟩ := q
            refine PW.istore (by decide) dX6_saves_133 (?_ : PW _ _ _ _ [(0, _), (1, _), (2, _), (3, _), (4, _), (5, _), (6, _), (7, _), (8, _)] _ _ _)
            refine PW.aload_n rfl rfl dX6_saves_135 ?_
            refine PW.gR hS.1 (by decide) rfl fX6_20 dX6_saves_136 ?_
            refine PW.iload rfl dX6_saves_139 ?_
            refine PW.dup2 rfl rfl dX6_saves_141 ?_
            refine PW.aI hS.1 (by decide) rfl (by exact rfl) ⟨by omega, by decide⟩ ((hA4.iv (r := 99) (by decide) _).trans ((h99 _).trans ((if_neg (by omega)).trans (if_pos rfl)))) dX6_saves_142 ?_
            refine PW.iload rfl dX6_saves_143 ?_
            refine PW.iconst (v := -1) (by decide) dX6_saves_145 ?_
            refine PW.ixor dX6_saves_146 ?_
            refine PW.iand dX6_saves_147 ?_
            rw [hcl]
            refine PW.uI hS (by decide) rfl (by exact rfl) ⟨by omega, by decide⟩ dX6_saves_148 (fun hS hw148 => ?_)
            refine PW.aload_n rfl rfl dX6_saves_149 ?_
            refine PW.gR hS.1 (by decide) rfl fX6_20 dX6_saves_150 ?_
            refine PW.iload rfl dX6_saves_153 ?_
            refine PW.dup2 rfl rfl dX6_saves_155 ?_
            refine PW.aI hS.1 (by decide) rfl (by exact rfl) ⟨by omega, by decide⟩ ((hw148 _).trans ((if_neg (by omega)).trans ((hA4.iv (r := 99) (by decide) _).trans ((h99 _).trans ((if_pos rfl).trans (by rw [hy])))))) dX6_saves_156 ?_
            refine PW.iload rfl dX6_saves_157 ?_
            refine PW.iconst (v := -1) (by decide) dX6_saves_159 ?_
            refine PW.ixor dX6_saves_160 ?_
            refine PW.iand dX6_saves_161 ?_
            rw [hcl]
            refine PW.uI hS (by decide) rfl (by exact rfl) ⟨by omega, by decide⟩ dX6_saves_162 (fun hS hw162 => ?_)
            have hA5 : Ag (fun r => r ≠ 99 ∧ r ≠ 110) m _ := ((((Ag.wI (x := nI (R 12 (6 * u + v) ||| 2 ^ R 13 t)) (fun h => h rfl)).tr (Ag.wI (fun h => h rfl))).mono (B := fun r => r ≠ 99 ∧ r ≠ 110) (fun r h => h.1)).tr (hA4.mono (fun r h => h.2))).tr ((Ag.wI (m := m1) (j := 6 * u + v) (x := nI (R 12 (6 * u + v))) (fun h => h.1 rfl)).tr (Ag.wI (j := v * 6 + u) (x := nI (R 12 (6 * u + v))) (fun h => h.1 rfl)))
            have hM5 : MD _ R := MD.tre hM2 hA5 ⟨by decide, by decide⟩ (fun q q1 q2 h => ⟨h, by omega⟩) (fun _ _ _ => rfl) (fun a c ha hc => by
              rw [hw162]
              by_cases q1 : 6 * a + c = v * 6 + u
              · rw [if_pos q1, show 6 * a + c = 6 * v + u by omega, hy]
              · rw [if_neg q1, hw148]
                by_cases q2 : 6 * a + c = 6 * u + v
                · rw [if_pos q2, q2]
                · rw [if_neg q2, hA4.iv (r := 99) (by decide), h99, if_neg q1, if_neg q2]; exact (hM2.2.2.2.2.1 a c ha hc).2)
            refine PW.iload rfl dX6_saves_163 ?_
            refine PW.iload_n rfl rfl dX6_saves_165 ?_
            refine PW.icmp_geN 196 (by decide) (by first | omega | (split <;> omega)) (by first | omega | (split <;> omega)) dX6_saves_166 (fun hc166 => ?_) (fun hc166 => ?_)
            · refine PW.iload rfl dX6_saves_196 ?_
              refine PW.istore (by decide) dX6_saves_198 (?_ : PW _ _ _ _ [(0, _), (1, _), (2, _), (3, _), (4, _), (5, _), (6, _), (7, _), (8, _)] _ _ _)
              refine PW.iload rfl dX6_saves_200 ?_
              refine PW.iload_n rfl rfl dX6_saves_202 ?_
              refine PW.icmp_geN 211 (by decide) (by first | omega | (split <;> omega)) (by first | omega | (split <;> omega)) dX6_saves_203 (fun hc203 => ?_) (fun hc203 => ?_)
              · refine PW.iload_n rfl rfl dX6_saves_211 ?_
                refine PW.istore_n rfl (by decide) dX6_saves_212 (?_ : PW _ _ _ _ [(0, _), (1, _), (2, _), (3, _), (4, _), (5, _), (6, _), (7, _), (8, _)] _ _ _)
                refine PW.iincN rfl (by decide) dX6_saves_213 (?_ : PW _ _ _ _ [(0, _), (1, _), (2, _), (3, _), (4, _), (5, _), (6, _), (7, _), (8, _)] _ _ _)
                refine PW.goto 43 (by decide) dX6_saves_216 ?_
                refine PW.drop _ (fun r h => List.mem_of_mem_take (i := 7) h) ?_
                first | (exfalso; omega) | (rw [n1 hc76] at ih; exact ih _ ⟨hS, hA, hM2⟩) | (rw [n2 hc76 hc86] at ih; exact ih _ ⟨hS, hA, hM2⟩) | (rw [n3 hc76 hc99] at ih; exact ih _ ⟨hS, hA, hM2⟩) | (rw [n4 hc166] at ih; exact ih _ ⟨hS, hA.tr hA5, hM5⟩) | (rw [y1 hc76 hc86 hc99 hc166] at ih; exact ih _ ⟨hS, hA.tr hA5, hM5⟩)
              · refine PW.iload rfl dX6_saves_206 ?_
                refine PW.goto 212 (by decide) dX6_saves_208 ?_
                refine PW.istore_n rfl (by decide) dX6_saves_212 (?_ : PW _ _ _ _ [(0, _), (1, _), (2, _), (3, _), (4, _), (5, _), (6, _), (7, _), (8, _)] _ _ _)
                refine PW.iincN rfl (by decide) dX6_saves_213 (?_ : PW _ _ _ _ [(0, _), (1, _), (2, _), (3, _), (4, _), (5, _), (6, _), (7, _), (8, _)] _ _ _)
                refine PW.goto 43 (by decide) dX6_saves_216 ?_
                refine PW.drop _ (fun r h => List.mem_of_mem_take (i := 7) h) ?_
                first | (exfalso; omega) | (rw [n1 hc76] at ih; exact ih _ ⟨hS, hA, hM2⟩) | (rw [n2 hc76 hc86] at ih; exact ih _ ⟨hS, hA, hM2⟩) | (rw [n3 hc76 hc99] at ih; exact ih _ ⟨hS, hA, hM2⟩) | (rw [n4 hc166] at ih; exact ih _ ⟨hS, hA.tr hA5, hM5⟩) | (rw [y1 hc76 hc86 hc99 hc166] at ih; exact ih _ ⟨hS, hA.tr hA5, hM5⟩)
            · refine PW.bipush (v := nI 100) (by decide) dX6_saves_169 ?_
              refine PW.iload rfl dX6_saves_171 ?_
              refine PW.bipush (v := nI 6) (by decide) dX6_saves_173 ?_
              refine PW.idivN (by omega) dX6_saves_175 ?_
              refine PW.imulN dX6_saves_176 ?_
              refine PW.bipush (v := nI 10) (by decide) dX6_saves_177 ?_
              refine PW.iload rfl dX6_saves_179 ?_
              refine PW.bipush (v := nI 6) (by decide) dX6_saves_181 ?_
              refine PW.iremN (by omega) dX6_saves_183 ?_
              refine PW.imulN dX6_saves_184 ?_
              refine PW.iaddN dX6_saves_185 ?_
              refine PW.aload_n rfl rfl dX6_saves_186 ?_
              refine PW.gR hS.1 (by decide) rfl fX6_23 dX6_saves_187 ?_
              refine PW.iload_n rfl rfl dX6_saves_190 ?_
              refine PW.aI hS.1 (by decide) rfl (by exact rfl) ⟨by omega, by decide⟩ ((hM5.2.2.2.2.2 t ht).1) dX6_saves_191 ?_
              rw [d1, d2]
              refine PW.iaddN dX6_saves_192 ?_
              refine PW.goto 198 (by decide) dX6_saves_193 ?_
              refine PW.istore (by decide) dX6_saves_198 (?_ : PW _ _ _ _ [(0, _), (1, _), (2, _), (3, _), (4, _), (5, _), (6, _), (7, _), (8, _)] _ _ _)
              refine PW.iload rfl dX6_saves_200 ?_
              refine PW.iload_n rfl rfl dX6_saves_202 ?_
              refine PW.icmp_geN 211 (by decide) (by first | omega | (split <;> omega)) (by first | omega | (split <;> omega)) dX6_saves_203 (fun hc203 => ?_) (fun hc203 => ?_)
              · refine PW.iload_n rfl rfl dX6_saves_211 ?_
                refine PW.istore_n rfl (by decide) dX6_saves_212 (?_ : PW _ _ _ _ [(0, _), (1, _), (2, _), (3, _), (4, _), (5, _), (6, _), (7, _), (8, _)] _ _ _)
                refine PW.iincN rfl (by decide) dX6_saves_213 (?_ : PW _ _ _ _ [(0, _), (1, _), (2, _), (3, _), (4, _), (5, _), (6, _), (7, _), (8, _)] _ _ _)
                refine PW.goto 43 (by decide) dX6_saves_216 ?_
                refine PW.drop _ (fun r h => List.mem_of_mem_take (i := 7) h) ?_
                first | (exfalso; omega) | (rw [n1 hc76] at ih; exact ih _ ⟨hS, hA, hM2⟩) | (rw [n2 hc76 hc86] at ih; exact ih _ ⟨hS, hA, hM2⟩) | (rw [n3 hc76 hc99] at ih; exact ih _ ⟨hS, hA, hM2⟩) | (rw [n4 hc166] at ih; exact ih _ ⟨hS, hA.tr hA5, hM5⟩) | (rw [y1 hc76 hc86 hc99 hc166] at ih; exact ih _ ⟨hS, hA.tr hA5, hM5⟩)
              · refine PW.iload rfl dX6_saves_206 ?_
                refine PW.goto 212 (by decide) dX6_saves_208 ?_
                refine PW.istore_n rfl (by decide) dX6_saves_212 (?_ : PW _ _ _ _ [(0, _), (1, _), (2, _), (3, _), (4, _), (5, _), (6, _), (7, _), (8, _)] _ _ _)
                refine PW.iincN rfl (by decide) dX6_saves_213 (?_ : PW _ _ _ _ [(0, _), (1, _), (2, _), (3, _), (4, _), (5, _), (6, _), (7, _), (8, _)] _ _ _)
                refine PW.goto 43 (by decide) dX6_saves_216 ?_
                refine PW.drop _ (fun r h => List.mem_of_mem_take (i := 7) h) ?_
                first | (exfalso; omega) | (rw [n1 hc76] at ih; exact ih _ ⟨hS, hA, hM2⟩) | (rw [n2 hc76 hc86] at ih; exact ih _ ⟨hS, hA, hM2⟩) | (rw [n3 hc76 hc99] at ih; exact ih _ ⟨hS, hA, hM2⟩) | (rw [n4 hc166] at ih; exact ih _ ⟨hS, hA.tr hA5, hM5⟩) | (rw [y1 hc76 hc86 hc99 hc166] at ih; exact ih _ ⟨hS, hA.tr hA5, hM5⟩)
    · obtain ⟨hS, hA, hM2⟩ := hI
      refine PW.iload rfl dX6_saves_43 ?_
      refine PW.bipush (v := nI 36) (by decide) dX6_saves_45 ?_
      refine PW.icmp_geN 219 (by decide) (by first | omega | (split <;> omega)) (by first | omega | (split <;> omega)) dX6_saves_47 (fun hc47 => ?_) (fun hc47 => by (exfalso; omega))
      refine PW.iload rfl dX6_saves_219 ?_
      refine PW.iret rfl (Nat.le_refl _) (Nat.le_refl _) dX6_saves_221 ?_
      exact ⟨rfl, hS, hA, hM2⟩
  · rw [savS, if_neg hg]
    refine Ret.of (by decide) (Nat.le_of_ble_eq_true rfl) fun l G => ?_
    show PW _ _ _ _ [(0, _), (1, _), (2, _)] _ _ _
    refine PW.aload_n rfl rfl dX6_saves_0 ?_
    refine PW.iload_n rfl rfl dX6_saves_1 ?_
    refine PW.cV (ci := 6) (j := 0) _ hS.1 (by decide) rfl kX6_193 (m_isThing hS hM hD _) rfl rfl (Nat.le_of_ble_eq_true rfl) rfl ⟨by decide, by decide⟩ ⟨Nat.zero_le _, Nat.zero_le _⟩ dX6_saves_2 ?_
    refine PW.if_eqB 16 (by decide) dX6_saves_5 (fun hc5 => ?_) (fun hc5 => ?_)
    · refine PW.iconst (v := -1) (by decide) dX6_saves_16 ?_
      refine PW.iret rfl (Nat.le_refl _) (Nat.le_refl _) dX6_saves_17 ?_
      exact ⟨rfl, hS, Ag.rf, hM⟩
    · refine PW.aload_n rfl rfl dX6_saves_8 ?_
      refine PW.iload_n rfl rfl dX6_saves_9 ?_
      refine PW.cV (ci := 6) (j := 0) _ hS.1 (by decide) rfl kX6_178 (m_isPocket hS hM hD _) rfl rfl (Nat.le_of_ble_eq_true rfl) rfl ⟨by decide, by decide⟩ ⟨Nat.zero_le _, Nat.zero_le _⟩ dX6_saves_10 ?_
      refine PW.if_neB 18 (by decide) dX6_saves_13 (fun hc13 => by exact absurd ⟨hc5, hc13⟩ hg) (fun hc13 => ?_)
      refine PW.iconst (v := -1) (by decide) dX6_saves_16 ?_
      refine PW.iret rfl (Nat.le_refl _) (Nat.le_refl _) dX6_saves_17 ?_
      exact ⟨rfl, hS, Ag.rf, hM⟩
end MSV
