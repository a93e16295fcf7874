/-! ===== saves: the class ===== -/
section XSW
variable {b s : Nat} {sc : pw_E} {mem : pw_M} {R : DR} {w : Nat → Nat} {p : Int32} {d : Nat} {e K : Nat}
set_option maxHeartbeats 8000000 in
theorem x_saves (hS : St b s sc mem) (hX : XD mem b R) (hL : XL mem b R) (hD : Dat R) (hN : XN mem 13 (R 1 0) w p d) (hw : ∀ t, t < R 1 0 → w t < R 0 0) (t k : Int32) : Ret 4 0 0 mX5_saves [.ref 9, .int t, .int k] mem (fun v m1 => v = some (.int (savS R w t k)) ∧ St b s sc m1 ∧ Ag (fun r => r ≠ 46) mem m1) := by
  have h6 := hD.1
  have hT := hD.2.1
  have hb := hS.b
  by_cases hg : inR t (R 1 0) = true ∧ inR k (R 0 0) = true
  · rw [savS, if_pos hg]
    obtain ⟨g1, g2⟩ := hg
    obtain ⟨t, ht, rfl⟩ := inR_of g1
    obtain ⟨k, hk, rfl⟩ := inR_of g2
    rw [cl_nI (by omega), cl_nI (by omega)]
    have hwt := hw t ht
    have d13 := (hD.2.2.2.2.2.2 t ht).1
    have hl1 := x_least hS hX hL hD hN hw (pr := true) ht hk (A := 9) (B := 9) (Or.inr rfl) (Or.inr rfl)
    rw [lst_eq hD hwt, show bI true = nI 1 from rfl, hI_9] at hl1
    refine Ret.of (by decide) (Nat.le_of_ble_eq_true rfl) fun l G => ?_
    show PW _ _ _ _ [(0, _), (1, _), (2, _)] _ _ _
    refine PW.aload_n rfl rfl dX5_saves_0 ?_
    refine PW.iload_n rfl rfl dX5_saves_1 ?_
    refine PW.cV (ci := 5) (j := 0) _ hS.1 (by decide) rfl kX5_122 (x_isThing hS hX hD _) rfl rfl (Nat.le_of_ble_eq_true rfl) rfl ⟨by decide, by decide⟩ ⟨Nat.zero_le _, Nat.zero_le _⟩ dX5_saves_2 ?_
    refine PW.if_eqB 16 (by decide) dX5_saves_5 (fun hc5 => by (first | (exfalso; omega) | (rw [g1] at hc5; cases hc5) | (rw [g2] at hc5; cases hc5))) (fun hc5 => ?_)
    refine PW.aload_n rfl rfl dX5_saves_8 ?_
    refine PW.iload_n rfl rfl dX5_saves_9 ?_
    refine PW.cV (ci := 5) (j := 0) _ hS.1 (by decide) rfl kX5_93 (x_isPocket hS hX hD _) rfl rfl (Nat.le_of_ble_eq_true rfl) rfl ⟨by decide, by decide⟩ ⟨Nat.zero_le _, Nat.zero_le _⟩ dX5_saves_10 ?_
    refine PW.if_neB 18 (by decide) dX5_saves_13 (fun hc13 => ?_) (fun hc13 => by (first | (exfalso; omega) | (rw [g1] at hc13; cases hc13) | (rw [g2] at hc13; cases hc13)))
    refine PW.aload_n rfl rfl dX5_saves_18 ?_
    refine PW.gV hS.1 (by decide) rfl hS.2.1 fX5_58 dX5_saves_19 ?_
    refine PW.gR hS.1 (by have := hS.b; omega) (skR13 hS.b) fX5_125 dX5_saves_22 ?_
    refine PW.iload_n rfl rfl dX5_saves_25 ?_
    refine PW.aI hS.1 (by have := hS.b; omega) (akR17 hS.b) (by exact rfl) ⟨by omega, by decide⟩ ((hX.2.2.2.2.2.2 t ht).1) dX5_saves_26 ?_
    refine PW.istore_n rfl (by decide) dX5_saves_27 (?_ : PW _ _ _ _ [(0, _), (1, _), (2, _), (3, _)] _ _ _)
    refine PW.aload_n rfl rfl dX5_saves_28 ?_
    refine PW.iload_n rfl rfl dX5_saves_29 ?_
    refine PW.iload_n rfl rfl dX5_saves_30 ?_
    refine PW.iconst (v := nI 1) (by decide) dX5_saves_31 ?_
    refine PW.bipush (v := -9) (by decide) dX5_saves_32 ?_
    refine PW.bipush (v := -9) (by decide) dX5_saves_34 ?_
    refine PW.dV (ci := 5) (j := 0) _ hS.1 (by decide) rfl kX5_186 (hl1) rfl rfl (Nat.le_of_ble_eq_true rfl) rfl ⟨by decide, by decide⟩ ⟨Nat.zero_le _, Nat.zero_le _⟩ dX5_saves_36 (fun v m1 q => ?_)
    obtain ⟨rfl, hS, hA⟩ := q
    refine PW.istore (by decide) dX5_saves_39 (?_ : PW _ _ _ _ [(0, _), (1, _), (2, _), (3, _), (4, _)] _ _ _)
    refine PW.bipush (v := -9) (by decide) dX5_saves_41 ?_
    refine PW.istore (by decide) dX5_saves_43 (?_ : PW _ _ _ _ [(0, _), (1, _), (2, _), (3, _), (4, _), (5, _)] _ _ _)
    refine PW.iconst (v := nI 0) (by decide) dX5_saves_45 ?_
    refine PW.istore (by decide) dX5_saves_46 (?_ : PW _ _ _ _ [(0, _), (1, _), (2, _), (3, _), (4, _), (5, _), (6, _)] _ _ _)
    skip
    rw [svN_end hD]
    refine PW.loop (I := fun u m => St b s sc m ∧ Ag (fun r => r ≠ 46) mem m) (fun u _ => [(0, .ref 9), (1, .int (nI t)), (2, .int (nI k)), (3, .int (nI (R 13 t))), (4, .int (cI (svN R (R 13 t) (w t) k (6 * u)).1)), (5, .int (svN R (R 13 t) (w t) k (6 * u)).2), (6, .int (nI u))]) (fun _ m => m) (R 0 0) (fun u m hu hI ih => ?_) (fun m hI => ?_) _ ⟨hS, hA⟩
    · obtain ⟨hS, hA⟩ := hI
      have hX2 := hX.ag hA (fun r h1 h2 => by omega)
      obtain ⟨r1, r2⟩ := svN_row hD (t := R 13 t) (a := w t) (k := k) hu
      rw [← r2] at ih
      rw [← r1]
      refine PW.iload rfl dX5_saves_48 ?_
      refine PW.aload_n rfl rfl dX5_saves_50 ?_
      refine PW.gV hS.1 (by decide) rfl hS.2.1 fX5_58 dX5_saves_51 ?_
      refine PW.gI hS.1 (by have := hS.b; omega) (skR0 hS.b) (hX2.1) fX5_206 dX5_saves_54 ?_
      refine PW.icmp_geN 167 (by decide) (by first | omega | (split <;> omega)) (by first | omega | (split <;> omega)) dX5_saves_57 (fun hc57 => by (first | (exfalso; omega) | (rw [g1] at hc57; cases hc57) | (rw [g2] at hc57; cases hc57))) (fun hc57 => ?_)
      refine PW.iload rfl dX5_saves_60 ?_
      refine PW.iconst (v := nI 1) (by decide) dX5_saves_62 ?_
      refine PW.iaddN dX5_saves_63 ?_
      refine PW.istore (by decide) dX5_saves_64 (?_ : PW _ _ _ _ [(0, _), (1, _), (2, _), (3, _), (4, _), (5, _), (6, _), (7, _)] _ _ _)
      skip
      refine PW.loop (I := fun j m => St b s sc m ∧ Ag (fun r => r ≠ 46) mem m) (fun j _ => [(0, .ref 9), (1, .int (nI t)), (2, .int (nI k)), (3, .int (nI (R 13 t))), (4, .int (cI (svN R (R 13 t) (w t) k (6 * u + (u + 1 + j))).1)), (5, .int (svN R (R 13 t) (w t) k (6 * u + (u + 1 + j))).2), (6, .int (nI u)), (7, .int (nI (u + 1 + j)))]) (fun _ m => m) (R 0 0 - (u + 1)) (fun j m hj hI ih => ?_) (fun m hI => ?_) _ ⟨hS, hA⟩
      · obtain ⟨hS, hA⟩ := hI
        have hX2 := hX.ag hA (fun r h1 h2 => by omega)
        have hL2 := hL.ag hA (by omega) (by omega)
        have hN2 := hN.ag hA (by decide) (by decide)
        obtain ⟨v, hv⟩ : ∃ v, v = u + 1 + j := ⟨_, rfl⟩
        have hvP : v < R 0 0 := by omega
        have hm := svN_le (R := R) (t := R 13 t) (a := w t) (k := k) (6 * u + v)
        have hm2 := lstM_le (R := R) (t := R 13 t) (pr := true) (a := w t) (k := k)
        have ho1 := svN_open hD (k := k) d13 hwt (6 * u + v) (by omega)
        have ho2 := svT_open hD (k := k) (u := u) (v := v) d13 (by omega) (by omega) hwt
        have hm3 : svT R (R 13 t) (w t) k (6 * u + v) ≤ 100000 := lstM_le
        have hcmp := cI_lt (th := svT R (R 13 t) (w t) k (6 * u + v)) (be := (svN R (R 13 t) (w t) k (6 * u + v)).1) hm3 (by omega) (ho2.trans ho1.symm)
        have es : svN R (R 13 t) (w t) k (6 * u + (v + 1)) = if svC R (R 13 t) (6 * u + v) = true ∧ svT R (R 13 t) (w t) k (6 * u + v) < (svN R (R 13 t) (w t) k (6 * u + v)).1 then (svT R (R 13 t) (w t) k (6 * u + v), nI (100 * u + 10 * v + R 13 t)) else svN R (R 13 t) (w t) k (6 * u + v) := by
          rw [show 6 * u + (v + 1) = (6 * u + v) + 1 by omega, svN, show (6 * u + v) / 6 = u by omega, show (6 * u + v) % 6 = v by omega]
        have hsc := svC_in (R := R) (t := R 13 t) (u := u) (v := v) (by omega) (by omega)
        have h64 := hD.2.2.2.2.2.1 u v (by omega) (by omega)
        have hsl := (hD.2.2.2.2.1 u (by omega)).2.2.1
        have hp := pow6 h6
        rw [show u + 1 + (j + 1) = v + 1 by omega] at ih
        rw [← hv]
        rw [hsc] at es
        have n1 : (R 9 u).testBit v = false → svN R (R 13 t) (w t) k (6 * u + (v + 1)) = svN R (R 13 t) (w t) k (6 * u + v) := fun h => by rw [es, if_neg (fun q => by rw [h, Bool.false_and] at q; exact absurd q.1 (by decide))]
        have n2 : (R 12 (6 * u + v)).testBit (R 13 t) = true → svN R (R 13 t) (w t) k (6 * u + (v + 1)) = svN R (R 13 t) (w t) k (6 * u + v) := fun h => by rw [es, if_neg (fun q => by rw [h, Bool.not_true, Bool.and_false] at q; exact absurd q.1 (by decide))]
        have n3 : cI (svN R (R 13 t) (w t) k (6 * u + v)).1 ≤ cI (svT R (R 13 t) (w t) k (6 * u + v)) → svN R (R 13 t) (w t) k (6 * u + (v + 1)) = svN R (R 13 t) (w t) k (6 * u + v) := fun h => by rw [es, if_neg (fun q => Int32.not_lt.mpr h (hcmp.mpr q.2))]
        have y1 : (R 9 u).testBit v = true → (R 12 (6 * u + v)).testBit (R 13 t) = false → ¬ cI (svN R (R 13 t) (w t) k (6 * u + v)).1 ≤ cI (svT R (R 13 t) (w t) k (6 * u + v)) → svN R (R 13 t) (w t) k (6 * u + (v + 1)) = (svT R (R 13 t) (w t) k (6 * u + v), nI (100 * u + 10 * v + R 13 t)) := fun h1 h2 h3 => by rw [es, if_pos ⟨by rw [h1, h2]; rfl, hcmp.mp (Int32.not_le.mp h3)⟩]
        refine PW.iload rfl dX5_saves_66 ?_
        refine PW.aload_n rfl rfl dX5_saves_68 ?_
        refine PW.gV hS.1 (by decide) rfl hS.2.1 fX5_58 dX5_saves_69 ?_
        refine PW.gI hS.1 (by have := hS.b; omega) (skR0 hS.b) (hX2.1) fX5_206 dX5_saves_72 ?_
        refine PW.icmp_geN 161 (by decide) (by first | omega | (split <;> omega)) (by first | omega | (split <;> omega)) dX5_saves_75 (fun hc75 => by (first | (exfalso; omega) | (rw [g1] at hc75; cases hc75) | (rw [g2] at hc75; cases hc75))) (fun hc75 => ?_)
        refine PW.aload_n rfl rfl dX5_saves_78 ?_
        refine PW.gV hS.1 (by decide) rfl hS.2.1 fX5_58 dX5_saves_79 ?_
        refine PW.gR hS.1 (by have := hS.b; omega) (skR9 hS.b) fX5_116 dX5_saves_82 ?_
        refine PW.iload rfl dX5_saves_85 ?_
        refine PW.aI hS.1 (by have := hS.b; omega) (akR7 hS.b) (by exact rfl) ⟨by omega, by decide⟩ ((hX2.2.2.2.2.1 u (by omega)).2.2.1) dX5_saves_87 ?_
        refine PW.iload rfl dX5_saves_88 ?_
        refine PW.cS _ kX5_143 (x_has (a := R 9 u) (k := v) (by omega) (by omega) m) rfl rfl (Nat.le_of_ble_eq_true rfl) ⟨by decide, by decide⟩ ⟨Nat.zero_le _, Nat.zero_le _⟩ dX5_saves_90 ?_
        refine PW.if_eqB 155 (by decide) dX5_saves_93 (fun hc93 => ?_) (fun hc93 => ?_)
        · refine PW.iincN rfl (by decide) dX5_saves_155 (?_ : PW _ _ _ _ [(0, _), (1, _), (2, _), (3, _), (4, _), (5, _), (6, _), (7, _)] _ _ _)
          refine PW.goto 66 (by decide) dX5_saves_158 ?_
          refine PW.drop _ (fun r h => List.mem_of_mem_take (i := 8) h) ?_
          first | (rw [n1 hc93] at ih; exact ih _ ⟨hS, hA⟩) | (rw [n2 hc113] at ih; exact ih _ ⟨hS, hA⟩) | (rw [n3 hc133] at ih; exact ih _ ⟨hS, hA.tr hA1⟩) | (rw [y1 hc93 hc113 hc133] at ih; exact ih _ ⟨hS, hA.tr hA1⟩)
        · refine PW.aload_n rfl rfl dX5_saves_96 ?_
          refine PW.gV hS.1 (by decide) rfl hS.2.1 fX5_58 dX5_saves_97 ?_
          refine PW.gR hS.1 (by have := hS.b; omega) (skR12 hS.b) fX5_209 dX5_saves_100 ?_
          refine PW.iload rfl dX5_saves_103 ?_
          refine PW.aQ hS.1 (by have := hS.b; omega) (akR10 hS.b) (fun _ => rfl) rfl (by exact rfl) ⟨by omega, by decide⟩ (akRq (by omega)) dX5_saves_105 ?_
          refine PW.iload rfl dX5_saves_106 ?_
          refine PW.aI hS.1 (by have := hS.b; omega) (akRt hS.b (by omega)) (by exact rfl) ⟨by omega, by decide⟩ (hX2.2.2.2.2.2.1 u v (by omega) (by omega)) dX5_saves_108 ?_
          refine PW.iload_n rfl rfl dX5_saves_109 ?_
          refine PW.cS _ kX5_143 (x_has (a := R 12 (6 * u + v)) (k := R 13 t) (by omega) (by omega) m) rfl rfl (Nat.le_of_ble_eq_true rfl) ⟨by decide, by decide⟩ ⟨Nat.zero_le _, Nat.zero_le _⟩ dX5_saves_110 ?_
          refine PW.if_neB 155 (by decide) dX5_saves_113 (fun hc113 => ?_) (fun hc113 => ?_)
          · refine PW.iincN rfl (by decide) dX5_saves_155 (?_ : PW _ _ _ _ [(0, _), (1, _), (2, _), (3, _), (4, _), (5, _), (6, _), (7, _)] _ _ _)
            refine PW.goto 66 (by decide) dX5_saves_158 ?_
            refine PW.drop _ (fun r h => List.mem_of_mem_take (i := 8) h) ?_
            first | (rw [n1 hc93] at ih; exact ih _ ⟨hS, hA⟩) | (rw [n2 hc113] at ih; exact ih _ ⟨hS, hA⟩) | (rw [n3 hc133] at ih; exact ih _ ⟨hS, hA.tr hA1⟩) | (rw [y1 hc93 hc113 hc133] at ih; exact ih _ ⟨hS, hA.tr hA1⟩)
          · refine PW.aload_n rfl rfl dX5_saves_116 ?_
            refine PW.iload_n rfl rfl dX5_saves_117 ?_
            refine PW.iload_n rfl rfl dX5_saves_118 ?_
            refine PW.iconst (v := nI 1) (by decide) dX5_saves_119 ?_
            refine PW.iload rfl dX5_saves_120 ?_
            refine PW.iload rfl dX5_saves_122 ?_
            refine PW.dV (ci := 5) (j := 0) _ hS.1 (by decide) rfl kX5_186 (x_leastC hS hX2 hL2 hD hN2 hw ht hk (u := u) (v := v) (by omega) (by omega)) rfl rfl (Nat.le_of_ble_eq_true rfl) rfl ⟨by decide, by decide⟩ ⟨Nat.zero_le _, Nat.zero_le _⟩ dX5_saves_124 (fun v m1 q => ?_)
            obtain ⟨rfl, hS, hA1⟩ := q
            refine PW.istore (by decide) dX5_saves_127 (?_ : PW _ _ _ _ [(0, _), (1, _), (2, _), (3, _), (4, _), (5, _), (6, _), (7, _), (8, _)] _ _ _)
            refine PW.iload rfl dX5_saves_129 ?_
            refine PW.iload rfl dX5_saves_131 ?_
            refine PW.icmp_ge 155 (by decide) dX5_saves_133 (fun hc133 => ?_) (fun hc133 => ?_)
            · refine PW.iincN rfl (by decide) dX5_saves_155 (?_ : PW _ _ _ _ [(0, _), (1, _), (2, _), (3, _), (4, _), (5, _), (6, _), (7, _), (8, _)] _ _ _)
              refine PW.goto 66 (by decide) dX5_saves_158 ?_
              refine PW.drop _ (fun r h => List.mem_of_mem_take (i := 8) h) ?_
              first | (rw [n1 hc93] at ih; exact ih _ ⟨hS, hA⟩) | (rw [n2 hc113] at ih; exact ih _ ⟨hS, hA⟩) | (rw [n3 hc133] at ih; exact ih _ ⟨hS, hA.tr hA1⟩) | (rw [y1 hc93 hc113 hc133] at ih; exact ih _ ⟨hS, hA.tr hA1⟩)
            · refine PW.iload rfl dX5_saves_136 ?_
              refine PW.istore (by decide) dX5_saves_138 (?_ : PW _ _ _ _ [(0, _), (1, _), (2, _), (3, _), (4, _), (5, _), (6, _), (7, _), (8, _)] _ _ _)
              refine PW.bipush (v := nI 100) (by decide) dX5_saves_140 ?_
              refine PW.iload rfl dX5_saves_142 ?_
              refine PW.imulN dX5_saves_144 ?_
              refine PW.bipush (v := nI 10) (by decide) dX5_saves_145 ?_
              refine PW.iload rfl dX5_saves_147 ?_
              refine PW.imulN dX5_saves_149 ?_
              refine PW.iaddN dX5_saves_150 ?_
              refine PW.iload_n rfl rfl dX5_saves_151 ?_
              refine PW.iaddN dX5_saves_152 ?_
              refine PW.istore (by decide) dX5_saves_153 (?_ : PW _ _ _ _ [(0, _), (1, _), (2, _), (3, _), (4, _), (5, _), (6, _), (7, _), (8, _)] _ _ _)
              refine PW.iincN rfl (by decide) dX5_saves_155 (?_ : PW _ _ _ _ [(0, _), (1, _), (2, _), (3, _), (4, _), (5, _), (6, _), (7, _), (8, _)] _ _ _)
              refine PW.goto 66 (by decide) dX5_saves_158 ?_
              refine PW.drop _ (fun r h => List.mem_of_mem_take (i := 8) h) ?_
              first | (rw [n1 hc93] at ih; exact ih _ ⟨hS, hA⟩) | (rw [n2 hc113] at ih; exact ih _ ⟨hS, hA⟩) | (rw [n3 hc133] at ih; exact ih _ ⟨hS, hA.tr hA1⟩) | (rw [y1 hc93 hc113 hc133] at ih; exact ih _ ⟨hS, hA.tr hA1⟩)
      · obtain ⟨hS, hA⟩ := hI
        have hX2 := hX.ag hA (fun r h1 h2 => by omega)
        rw [show u + 1 + (R 0 0 - (u + 1)) = R 0 0 by omega]
        refine PW.iload rfl dX5_saves_66 ?_
        refine PW.aload_n rfl rfl dX5_saves_68 ?_
        refine PW.gV hS.1 (by decide) rfl hS.2.1 fX5_58 dX5_saves_69 ?_
        refine PW.gI hS.1 (by have := hS.b; omega) (skR0 hS.b) (hX2.1) fX5_206 dX5_saves_72 ?_
        refine PW.icmp_geN 161 (by decide) (by first | omega | (split <;> omega)) (by first | omega | (split <;> omega)) dX5_saves_75 (fun hc75 => ?_) (fun hc75 => by (first | (exfalso; omega) | (rw [g1] at hc75; cases hc75) | (rw [g2] at hc75; cases hc75)))
        refine PW.iincN rfl (by decide) dX5_saves_161 (?_ : PW _ _ _ _ [(0, _), (1, _), (2, _), (3, _), (4, _), (5, _), (6, _), (7, _)] _ _ _)
        refine PW.goto 48 (by decide) dX5_saves_164 ?_
        exact PW.drop _ (fun r h => List.mem_of_mem_take (i := 7) h) (ih _ ⟨hS, hA⟩)
    · obtain ⟨hS, hA⟩ := hI
      have hX2 := hX.ag hA (fun r h1 h2 => by omega)
      refine PW.iload rfl dX5_saves_48 ?_
      refine PW.aload_n rfl rfl dX5_saves_50 ?_
      refine PW.gV hS.1 (by decide) rfl hS.2.1 fX5_58 dX5_saves_51 ?_
      refine PW.gI hS.1 (by have := hS.b; omega) (skR0 hS.b) (hX2.1) fX5_206 dX5_saves_54 ?_
      refine PW.icmp_geN 167 (by decide) (by first | omega | (split <;> omega)) (by first | omega | (split <;> omega)) dX5_saves_57 (fun hc57 => ?_) (fun hc57 => by (first | (exfalso; omega) | (rw [g1] at hc57; cases hc57) | (rw [g2] at hc57; cases hc57)))
      refine PW.iload rfl dX5_saves_167 ?_
      refine PW.iret rfl (Nat.le_refl _) (Nat.le_refl _) dX5_saves_169 ?_
      exact ⟨rfl, hS, hA⟩
  · rw [savS, if_neg hg]
    refine Ret.of (by decide) (Nat.le_of_ble_eq_true rfl) fun l G => ?_
    show PW _ _ _ _ [(0, _), (1, _), (2, _)] _ _ _
    refine PW.aload_n rfl rfl dX5_saves_0 ?_
    refine PW.iload_n rfl rfl dX5_saves_1 ?_
    refine PW.cV (ci := 5) (j := 0) _ hS.1 (by decide) rfl kX5_122 (x_isThing hS hX hD _) rfl rfl (Nat.le_of_ble_eq_true rfl) rfl ⟨by decide, by decide⟩ ⟨Nat.zero_le _, Nat.zero_le _⟩ dX5_saves_2 ?_
    refine PW.if_eqB 16 (by decide) dX5_saves_5 (fun hc5 => ?_) (fun hc5 => ?_)
    · refine PW.iconst (v := -1) (by decide) dX5_saves_16 ?_
      refine PW.iret rfl (Nat.le_refl _) (Nat.le_refl _) dX5_saves_17 ?_
      exact ⟨rfl, hS, Ag.rf⟩
    · refine PW.aload_n rfl rfl dX5_saves_8 ?_
      refine PW.iload_n rfl rfl dX5_saves_9 ?_
      refine PW.cV (ci := 5) (j := 0) _ hS.1 (by decide) rfl kX5_93 (x_isPocket hS hX hD _) rfl rfl (Nat.le_of_ble_eq_true rfl) rfl ⟨by decide, by decide⟩ ⟨Nat.zero_le _, Nat.zero_le _⟩ dX5_saves_10 ?_
      refine PW.if_neB 18 (by decide) dX5_saves_13 (fun hc13 => by exact absurd ⟨hc5, hc13⟩ hg) (fun hc13 => ?_)
      refine PW.iconst (v := -1) (by decide) dX5_saves_16 ?_
      refine PW.iret rfl (Nat.le_refl _) (Nat.le_refl _) dX5_saves_17 ?_
      exact ⟨rfl, hS, Ag.rf⟩
end XSW
