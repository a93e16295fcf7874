/-! ===== way: model ===== -/
def lstM (R : DR) (t : Nat) (pr : Bool) (a k : Nat) : Nat := rR (opE R t) (stN R t pr 9 9) (f0 a 100000) (eX 6) 36 6 k
theorem seam_in {R : DR} (hD : Dat R) {u v : Nat} (hu : u < 6) (h : (R 9 u).testBit v = true) : u < R 0 0 ∧ v < R 0 0 := by
  obtain ⟨-, -, h1, -, -, h2, -⟩ := hD.2.2.2.2.1 u hu
  constructor
  · refine Classical.byContradiction fun q => ?_
    rw [h2 (by omega), Nat.zero_testBit] at h
    cases h
  · refine Classical.byContradiction fun q => ?_
    rw [Nat.testBit_lt_two_pow (Nat.lt_of_lt_of_le h1 (Nat.pow_le_pow_right (by decide) (by omega)))] at h
    cases h
section WAYM
variable {b s : Nat} {sc : pw_E} {mem : pw_M} {R : DR} {w : Nat → Nat} {p : Int32} {d : Nat} {e K : Nat}
set_option maxHeartbeats 8000000 in
theorem m_farOf (hS : St b s sc mem) (hM : MD mem R) (hD : Dat R) (hN : MN mem (R 1 0) w p d) (hw : ∀ t, t < R 1 0 → w t < R 0 0) {t k : Nat} {pr : Bool} (ht : t < R 1 0) (hk : k < R 0 0) : Ret 5 0 0 mX6_farOf [.ref 95, .int (nI t), .int (nI k), .int (bI pr)] mem (fun x m1 => x = some (.int (nI (lstM R (R 13 t) pr (w t) k))) ∧ St b s sc m1 ∧ Ag (fun r => r ≠ 110) mem m1) := by
  have h6 := hD.1
  have hT := hD.2.1
  have hp := pow6 h6
  have hwt := hw t ht
  have d13 := (hD.2.2.2.2.2.2 t ht).1
  have hl := pockN_lt R (R 13 t) (R 0 0)
  unfold lstM
  refine Ret.of (by decide) (Nat.le_of_ble_eq_true rfl) fun l G => ?_
  show PW _ _ _ _ [(0, _), (1, _), (2, _), (3, _)] _ _ _
  refine PW.aload_n rfl rfl dX6_farOf_0 ?_
  refine PW.aload_n rfl rfl dX6_farOf_1 ?_
  refine PW.gR hS.1 (by decide) rfl fX6_23 dX6_farOf_2 ?_
  refine PW.iload_n rfl rfl dX6_farOf_5 ?_
  refine PW.aI hS.1 (by decide) rfl (by exact rfl) ⟨by omega, by decide⟩ ((hM.2.2.2.2.2 t ht).1) dX6_farOf_6 ?_
  refine PW.cV (ci := 6) (j := 0) _ hS.1 (by decide) rfl kX6_190 (m_letting hS hM hD d13) rfl rfl (Nat.le_of_ble_eq_true rfl) rfl ⟨by decide, by decide⟩ ⟨Nat.zero_le _, Nat.zero_le _⟩ dX6_farOf_7 ?_
  refine PW.istore (by decide) dX6_farOf_10 (?_ : PW _ _ _ _ [(0, _), (1, _), (2, _), (3, _), (4, _)] _ _ _)
  refine PW.iconst (v := nI 0) (by decide) dX6_farOf_12 ?_
  refine PW.istore (by decide) dX6_farOf_13 (?_ : PW _ _ _ _ [(0, _), (1, _), (2, _), (3, _), (4, _), (5, _)] _ _ _)
  skip
  refine PW.loop (I := fun j m => St b s sc m ∧ Ag (fun r => r ≠ 110) mem m ∧ ∀ z, z < j → iv m 110 z = nI (f0 (w t) 100000 z)) (fun j _ => [(0, .ref 95), (1, .int (nI t)), (2, .int (nI k)), (3, .int (bI pr)), (4, .int (nI (pockN R (R 13 t) (R 0 0)))), (5, .int (nI j))]) (fun _ m => m) 6 (fun j m hj hI ih => ?_) (fun m hI => ?_) mem ⟨hS, Ag.rf, fun z hz => absurd hz (Nat.not_lt_zero _)⟩
  · obtain ⟨hS, hA, hv⟩ := hI
    refine PW.iload rfl dX6_farOf_15 ?_
    refine PW.bipush (v := nI 6) (by decide) dX6_farOf_17 ?_
    refine PW.icmp_geN 52 (by decide) (by first | omega | (split <;> omega)) (by first | omega | (split <;> omega)) dX6_farOf_19 (fun hc19 => by exfalso; omega) (fun hc19 => ?_)
    refine PW.aload_n rfl rfl dX6_farOf_22 ?_
    refine PW.gR hS.1 (by decide) rfl fX6_53 dX6_farOf_23 ?_
    refine PW.iload rfl dX6_farOf_26 ?_
    refine PW.iload rfl dX6_farOf_28 ?_
    refine PW.aload_n rfl rfl dX6_farOf_30 ?_
    refine PW.gR hS.1 (by decide) rfl fX6_32 dX6_farOf_31 ?_
    refine PW.iload_n rfl rfl dX6_farOf_34 ?_
    refine PW.aI hS.1 (by decide) rfl (by exact rfl) ⟨by omega, by decide⟩ ((hA.iv (r := 103) (by decide) t).trans (hN.1 t ht)) dX6_farOf_35 ?_
    refine PW.icmp_neN 43 (by decide) (by first | omega | (split <;> omega)) (by first | omega | (split <;> omega)) dX6_farOf_36 (fun hc36 => ?_) (fun hc36 => ?_)
    · refine PW.ldc cX6_222 dX6_farOf_43 ?_
      refine PW.uI hS (by decide) rfl (by exact rfl) ⟨by omega, by decide⟩ dX6_farOf_45 (fun hS hw45 => ?_)
      refine PW.iincN rfl (by decide) dX6_farOf_46 (?_ : PW _ _ _ _ [(0, _), (1, _), (2, _), (3, _), (4, _), (5, _)] _ _ _)
      refine PW.goto 15 (by decide) dX6_farOf_49 ?_
      refine ih _ ⟨hS, hA.tr (Ag.wI (fun h => h rfl)), fun z hz => ?_⟩
      rw [hw45]
      unfold f0
      by_cases h : z = j
      · rw [if_pos h, h]; first | (rw [if_pos hc36]) | (rw [if_neg hc36]; rfl)
      · rw [if_neg h]; exact hv z (by omega)
    · refine PW.iconst (v := nI 0) (by decide) dX6_farOf_39 ?_
      refine PW.goto 45 (by decide) dX6_farOf_40 ?_
      refine PW.uI hS (by decide) rfl (by exact rfl) ⟨by omega, by decide⟩ dX6_farOf_45 (fun hS hw45 => ?_)
      refine PW.iincN rfl (by decide) dX6_farOf_46 (?_ : PW _ _ _ _ [(0, _), (1, _), (2, _), (3, _), (4, _), (5, _)] _ _ _)
      refine PW.goto 15 (by decide) dX6_farOf_49 ?_
      refine ih _ ⟨hS, hA.tr (Ag.wI (fun h => h rfl)), fun z hz => ?_⟩
      rw [hw45]
      unfold f0
      by_cases h : z = j
      · rw [if_pos h, h]; first | (rw [if_pos hc36]) | (rw [if_neg hc36]; rfl)
      · rw [if_neg h]; exact hv z (by omega)
  obtain ⟨hS, hA, hv⟩ := hI
  refine PW.iload rfl dX6_farOf_15 ?_
  refine PW.bipush (v := nI 6) (by decide) dX6_farOf_17 ?_
  refine PW.icmp_geN 52 (by decide) (by first | omega | (split <;> omega)) (by first | omega | (split <;> omega)) dX6_farOf_19 (fun hc19 => ?_) (fun hc19 => by exfalso; omega)
  refine PW.iconst (v := nI 0) (by decide) dX6_farOf_52 ?_
  refine PW.istore (by decide) dX6_farOf_53 (?_ : PW _ _ _ _ [(0, _), (1, _), (2, _), (3, _), (4, _), (5, _)] _ _ _)
  skip
  refine PW.loop (I := fun j m => St b s sc m ∧ Ag (fun r => r ≠ 110) mem m ∧ ∀ z, z < 6 → iv m 110 z = nI (rR (opE R (R 13 t)) (stN R (R 13 t) pr 9 9) (f0 (w t) 100000) (eX 6) 36 j z)) (fun j _ => [(0, .ref 95), (1, .int (nI t)), (2, .int (nI k)), (3, .int (bI pr)), (4, .int (nI (pockN R (R 13 t) (R 0 0)))), (5, .int (nI j))]) (fun _ m => m) 6 (fun j m hj hI ih => ?_) (fun m hI => ?_) _ ⟨hS, hA, hv⟩
  · obtain ⟨hS, hA, hv⟩ := hI
    have er : ∀ z, rR (opE R (R 13 t)) (stN R (R 13 t) pr 9 9) (f0 (w t) 100000) (eX 6) 36 (j + 1) z = rS (opE R (R 13 t)) (stN R (R 13 t) pr 9 9) (rR (opE R (R 13 t)) (stN R (R 13 t) pr 9 9) (f0 (w t) 100000) (eX 6) 36 j) (eX 6) 36 z := fun _ => rfl
    have hle : ∀ z, rR (opE R (R 13 t)) (stN R (R 13 t) pr 9 9) (f0 (w t) 100000) (eX 6) 36 j z ≤ 100000 := fun z => Nat.le_trans (rR_le z j) (by unfold f0; split <;> omega)
    simp only [er] at ih
    generalize rR (opE R (R 13 t)) (stN R (R 13 t) pr 9 9) (f0 (w t) 100000) (eX 6) 36 j = g at hv hle ih
    refine PW.iload rfl dX6_farOf_55 ?_
    refine PW.bipush (v := nI 6) (by decide) dX6_farOf_57 ?_
    refine PW.icmp_geN 181 (by decide) (by first | omega | (split <;> omega)) (by first | omega | (split <;> omega)) dX6_farOf_59 (fun hc59 => by exfalso; omega) (fun hc59 => ?_)
    refine PW.iconst (v := nI 0) (by decide) dX6_farOf_62 ?_
    refine PW.istore (by decide) dX6_farOf_63 (?_ : PW _ _ _ _ [(0, _), (1, _), (2, _), (3, _), (4, _), (5, _), (6, _)] _ _ _)
    skip
    refine PW.loop (I := fun i m => St b s sc m ∧ Ag (fun r => r ≠ 110) mem m ∧ ∀ z, z < 6 → iv m 110 z = nI (rS (opE R (R 13 t)) (stN R (R 13 t) pr 9 9) g (eX 6) i z)) (fun i _ => [(0, .ref 95), (1, .int (nI t)), (2, .int (nI k)), (3, .int (bI pr)), (4, .int (nI (pockN R (R 13 t) (R 0 0)))), (5, .int (nI j)), (6, .int (nI i))]) (fun _ m => m) 36 (fun i m hi hI ih => ?_) (fun m hI => ?_) _ ⟨hS, hA, hv⟩
    · obtain ⟨hS, hA, hv⟩ := hI
      have hM2 := hM.ag hA (by decide) (fun r h1 h2 => by omega)
      obtain ⟨u, v, hu, hv6, rfl⟩ : ∃ u v, u < 6 ∧ v < 6 ∧ i = 6 * u + v := ⟨i / 6, i % 6, by omega, by omega, by omega⟩
      have d1 : (6 * u + v) / 6 = u := by omega
      have d2 : (6 * u + v) % 6 = v := by omega
      have es : ∀ z, rS (opE R (R 13 t)) (stN R (R 13 t) pr 9 9) g (eX 6) (6 * u + v + 1) z = rx (opE R (R 13 t)) (stN R (R 13 t) pr 9 9) (rS (opE R (R 13 t)) (stN R (R 13 t) pr 9 9) g (eX 6) (6 * u + v)) u v z := fun z => by
        show rx _ _ _ ((6 * u + v) / 6) ((6 * u + v) % 6) z = _
        rw [d1, d2]
      have hle2 : ∀ z, rS (opE R (R 13 t)) (stN R (R 13 t) pr 9 9) g (eX 6) (6 * u + v) z ≤ 100000 := fun z => Nat.le_trans (rS_le z _) (hle z)
      have hst := stN_le hD (R 13 t) pr 9 9 u v
      simp only [es] at ih
      generalize rS (opE R (R 13 t)) (stN R (R 13 t) pr 9 9) g (eX 6) (6 * u + v) = q at hv hle2 ih
      have hno : opE R (R 13 t) u v = false → PW (l, G, mX6_farOf, pw_rm 5 0 0, 0, 0) 0 0 65 [(0, .ref 95), (1, .int (nI t)), (2, .int (nI k)), (3, .int (bI pr)), (4, .int (nI (pockN R (R 13 t) (R 0 0)))), (5, .int (nI j)), (6, .int (nI (6 * u + v + 1)))] [] m _ := fun h => ih m ⟨hS, hA, fun z hz => by unfold rx; rw [if_neg (fun k => absurd (h.symm.trans k.2) (by decide))]; exact hv z hz⟩
      have hyes : opE R (R 13 t) u v = true → ∀ x, stN R (R 13 t) pr 9 9 u v = x → ∀ y, y = (if q u + x < q v then q u + x else q v) → ∀ m', St b s sc m' → Ag (fun r => r ≠ 110) mem m' → (∀ z, iv m' 110 z = if z = v then nI y else iv m 110 z) → PW (l, G, mX6_farOf, pw_rm 5 0 0, 0, 0) 0 0 65 [(0, .ref 95), (1, .int (nI t)), (2, .int (nI k)), (3, .int (bI pr)), (4, .int (nI (pockN R (R 13 t) (R 0 0)))), (5, .int (nI j)), (6, .int (nI (6 * u + v + 1)))] [] m' _ := fun h x hx y hy m' a1 a2 a3 => ih m' ⟨a1, a2, fun z hz => by
        unfold rx
        rw [a3, hx]
        by_cases hzj : z = v
        · rw [if_pos hzj, if_pos (show z = v ∧ opE R (R 13 t) u v = true from ⟨hzj, h⟩), hy]
        · rw [if_neg hzj, if_neg (fun k => hzj k.1)]; exact hv z hz⟩
      have hoff : (R 9 u).testBit v = false → opE R (R 13 t) u v = false := fun h => by unfold opE; rw [h, Bool.false_and, Bool.and_false]
      have hsb : (R 9 u).testBit v = true → (pockN R (R 13 t) (R 0 0)).testBit v = letN R v (R 13 t) ∧ opE R (R 13 t) u v = letN R v (R 13 t) := fun h => by
        obtain ⟨h1, h2⟩ := seam_in hD hu h
        rw [pockN_bit, opE_in h1 h2, h, decide_eq_true h2]
        exact ⟨rfl, rfl⟩
      have hqu := hv u hu
      have hqv := hv v hv6
      have lqu := hle2 u
      have lqv := hle2 v
      have s1 : v < R 0 0 → pr = false → stN R (R 13 t) pr 9 9 u v = 1 := fun hj h => by unfold stN; rw [if_pos hj, h]; rfl
      have s3 : v < R 0 0 → pr = true → stN R (R 13 t) pr 9 9 u v = (if (R 12 (6 * u + v)).testBit (R 13 t) then 0 else R 5 v) := fun hj h => by unfold stN; rw [if_pos hj, if_pos h, if_neg (by omega)]; rfl
      refine PW.iload rfl dX6_farOf_65 ?_
      refine PW.bipush (v := nI 36) (by decide) dX6_farOf_67 ?_
      refine PW.icmp_geN 175 (by decide) (by first | omega | (split <;> omega)) (by first | omega | (split <;> omega)) dX6_farOf_69 (fun hc69 => by exfalso; omega) (fun hc69 => ?_)
      refine PW.iload rfl dX6_farOf_72 ?_
      refine PW.bipush (v := nI 6) (by decide) dX6_farOf_74 ?_
      refine PW.idivN (by omega) dX6_farOf_76 ?_
      rw [d1]
      refine PW.istore (by decide) dX6_farOf_77 (?_ : PW _ _ _ _ [(0, _), (1, _), (2, _), (3, _), (4, _), (5, _), (6, _), (7, _)] _ _ _)
      refine PW.iload rfl dX6_farOf_79 ?_
      refine PW.bipush (v := nI 6) (by decide) dX6_farOf_81 ?_
      refine PW.iremN (by omega) dX6_farOf_83 ?_
      rw [d2]
      refine PW.istore (by decide) dX6_farOf_84 (?_ : PW _ _ _ _ [(0, _), (1, _), (2, _), (3, _), (4, _), (5, _), (6, _), (7, _), (8, _)] _ _ _)
      refine PW.aload_n rfl rfl dX6_farOf_86 ?_
      refine PW.gR hS.1 (by decide) rfl fX6_16 dX6_farOf_87 ?_
      refine PW.iload rfl dX6_farOf_90 ?_
      refine PW.aZ hS.1 (by decide) rfl (by exact rfl) ⟨by omega, by decide⟩ ((hM2.2.2.2.2.1 u v hu hv6).1) dX6_farOf_92 ?_
      refine PW.if_eqB 169 (by decide) dX6_farOf_93 (fun hc93 => ?_) (fun hc93 => ?_)
      · refine PW.iincN rfl (by decide) dX6_farOf_169 (?_ : PW _ _ _ _ [(0, _), (1, _), (2, _), (3, _), (4, _), (5, _), (6, _), (7, _), (8, _)] _ _ _)
        refine PW.goto 65 (by decide) dX6_farOf_172 ?_
        refine PW.drop _ (fun r h => List.mem_of_mem_take (i := 7) h) ?_
        first | exact hno (hoff hc93) | exact hno ((hsb hc93).2.trans ((hsb hc93).1.symm.trans hc103)) | exact hyes hop _ (s1 hin hc114) _ (if_neg (by omega)).symm _ hS (hA.tr (Ag.wI (fun h => h rfl))) hw168 | exact hyes hop _ (s1 hin hc114) _ (if_pos (by omega)).symm _ hS (hA.tr (Ag.wI (fun h => h rfl))) hw168 | exact hyes hop _ e3 _ (if_neg (by omega)).symm _ hS (hA.tr (Ag.wI (fun h => h rfl))) hw168 | exact hyes hop _ e3 _ (if_pos (by omega)).symm _ hS (hA.tr (Ag.wI (fun h => h rfl))) hw168
      · refine PW.iload rfl dX6_farOf_96 ?_
        refine PW.iload rfl dX6_farOf_98 ?_
        refine PW.cS _ kX6_165 (m_has (a := pockN R (R 13 t) (R 0 0)) (k := v) (by omega) (by omega) m) rfl rfl (Nat.le_of_ble_eq_true rfl) ⟨by decide, by decide⟩ ⟨Nat.zero_le _, Nat.zero_le _⟩ dX6_farOf_100 ?_
        refine PW.if_eqB 169 (by decide) dX6_farOf_103 (fun hc103 => ?_) (fun hc103 => ?_)
        · refine PW.iincN rfl (by decide) dX6_farOf_169 (?_ : PW _ _ _ _ [(0, _), (1, _), (2, _), (3, _), (4, _), (5, _), (6, _), (7, _), (8, _)] _ _ _)
          refine PW.goto 65 (by decide) dX6_farOf_172 ?_
          refine PW.drop _ (fun r h => List.mem_of_mem_take (i := 7) h) ?_
          first | exact hno (hoff hc93) | exact hno ((hsb hc93).2.trans ((hsb hc93).1.symm.trans hc103)) | exact hyes hop _ (s1 hin hc114) _ (if_neg (by omega)).symm _ hS (hA.tr (Ag.wI (fun h => h rfl))) hw168 | exact hyes hop _ (s1 hin hc114) _ (if_pos (by omega)).symm _ hS (hA.tr (Ag.wI (fun h => h rfl))) hw168 | exact hyes hop _ e3 _ (if_neg (by omega)).symm _ hS (hA.tr (Ag.wI (fun h => h rfl))) hw168 | exact hyes hop _ e3 _ (if_pos (by omega)).symm _ hS (hA.tr (Ag.wI (fun h => h rfl))) hw168
        · have hin := (seam_in hD hu hc93).2
          have hop := (hsb hc93).2.trans ((hsb hc93).1.symm.trans hc103)
          refine PW.aload_n rfl rfl dX6_farOf_106 ?_
          refine PW.gR hS.1 (by decide) rfl fX6_53 dX6_farOf_107 ?_
          refine PW.iload rfl dX6_farOf_110 ?_
          refine PW.aI hS.1 (by decide) rfl (by exact rfl) ⟨by omega, by decide⟩ (hqu) dX6_farOf_112 ?_
          refine PW.iload_n rfl rfl dX6_farOf_113 ?_
          refine PW.if_eqB 134 (by decide) dX6_farOf_114 (fun hc114 => ?_) (fun hc114 => ?_)
          · refine PW.iconst (v := nI 1) (by decide) dX6_farOf_134 ?_
            refine PW.iaddN dX6_farOf_135 ?_
            refine PW.istore (by decide) dX6_farOf_136 (?_ : PW _ _ _ _ [(0, _), (1, _), (2, _), (3, _), (4, _), (5, _), (6, _), (7, _), (8, _), (9, _)] _ _ _)
            refine PW.aload_n rfl rfl dX6_farOf_138 ?_
            refine PW.gR hS.1 (by decide) rfl fX6_53 dX6_farOf_139 ?_
            refine PW.iload rfl dX6_farOf_142 ?_
            refine PW.iload rfl dX6_farOf_144 ?_
            refine PW.aload_n rfl rfl dX6_farOf_146 ?_
            refine PW.gR hS.1 (by decide) rfl fX6_53 dX6_farOf_147 ?_
            refine PW.iload rfl dX6_farOf_150 ?_
            refine PW.aI hS.1 (by decide) rfl (by exact rfl) ⟨by omega, by decide⟩ (hqv) dX6_farOf_152 ?_
            refine PW.icmp_geN 161 (by decide) (by first | omega | (split <;> omega)) (by first | omega | (split <;> omega)) dX6_farOf_153 (fun hc153 => ?_) (fun hc153 => ?_)
            · refine PW.aload_n rfl rfl dX6_farOf_161 ?_
              refine PW.gR hS.1 (by decide) rfl fX6_53 dX6_farOf_162 ?_
              refine PW.iload rfl dX6_farOf_165 ?_
              refine PW.aI hS.1 (by decide) rfl (by exact rfl) ⟨by omega, by decide⟩ (hqv) dX6_farOf_167 ?_
              refine PW.uI hS (by decide) rfl (by exact rfl) ⟨by omega, by decide⟩ dX6_farOf_168 (fun hS hw168 => ?_)
              refine PW.iincN rfl (by decide) dX6_farOf_169 (?_ : PW _ _ _ _ [(0, _), (1, _), (2, _), (3, _), (4, _), (5, _), (6, _), (7, _), (8, _), (9, _)] _ _ _)
              refine PW.goto 65 (by decide) dX6_farOf_172 ?_
              refine PW.drop _ (fun r h => List.mem_of_mem_take (i := 7) h) ?_
              first | exact hno (hoff hc93) | exact hno ((hsb hc93).2.trans ((hsb hc93).1.symm.trans hc103)) | exact hyes hop _ (s1 hin hc114) _ (if_neg (by omega)).symm _ hS (hA.tr (Ag.wI (fun h => h rfl))) hw168 | exact hyes hop _ (s1 hin hc114) _ (if_pos (by omega)).symm _ hS (hA.tr (Ag.wI (fun h => h rfl))) hw168 | exact hyes hop _ e3 _ (if_neg (by omega)).symm _ hS (hA.tr (Ag.wI (fun h => h rfl))) hw168 | exact hyes hop _ e3 _ (if_pos (by omega)).symm _ hS (hA.tr (Ag.wI (fun h => h rfl))) hw168
            · refine PW.iload rfl dX6_farOf_156 ?_
              refine PW.goto 168 (by decide) dX6_farOf_158 ?_
              refine PW.uI hS (by decide) rfl (by exact rfl) ⟨by omega, by decide⟩ dX6_farOf_168 (fun hS hw168 => ?_)
              refine PW.iincN rfl (by decide) dX6_farOf_169 (?_ : PW _ _ _ _ [(0, _), (1, _), (2, _), (3, _), (4, _), (5, _), (6, _), (7, _), (8, _), (9, _)] _ _ _)
              refine PW.goto 65 (by decide) dX6_farOf_172 ?_
              refine PW.drop _ (fun r h => List.mem_of_mem_take (i := 7) h) ?_
              first | exact hno (hoff hc93) | exact hno ((hsb hc93).2.trans ((hsb hc93).1.symm.trans hc103)) | exact hyes hop _ (s1 hin hc114) _ (if_neg (by omega)).symm _ hS (hA.tr (Ag.wI (fun h => h rfl))) hw168 | exact hyes hop _ (s1 hin hc114) _ (if_pos (by omega)).symm _ hS (hA.tr (Ag.wI (fun h => h rfl))) hw168 | exact hyes hop _ e3 _ (if_neg (by omega)).symm _ hS (hA.tr (Ag.wI (fun h => h rfl))) hw168 | exact hyes hop _ e3 _ (if_pos (by omega)).symm _ hS (hA.tr (Ag.wI (fun h => h rfl))) hw168
          · refine PW.aload_n rfl rfl dX6_farOf_117 ?_
            refine PW.iload rfl dX6_farOf_118 ?_
            refine PW.iload rfl dX6_farOf_120 ?_
            refine PW.aload_n rfl rfl dX6_farOf_122 ?_
            refine PW.gR hS.1 (by decide) rfl fX6_23 dX6_farOf_123 ?_
            refine PW.iload_n rfl rfl dX6_farOf_126 ?_
            refine PW.aI hS.1 (by decide) rfl (by exact rfl) ⟨by omega, by decide⟩ ((hM2.2.2.2.2.2 t ht).1) dX6_farOf_127 ?_
            refine PW.cV (ci := 6) (j := 0) _ hS.1 (by decide) rfl kX6_214 (m_taxOf hS hM2 hD hu hin d13) rfl rfl (Nat.le_of_ble_eq_true rfl) rfl ⟨by decide, by decide⟩ ⟨Nat.zero_le _, Nat.zero_le _⟩ dX6_farOf_128 ?_
            have e3 := s3 hin hc114
            rw [e3] at hst
            generalize (if (R 12 (6 * u + v)).testBit (R 13 t) then 0 else R 5 v) = tx at e3 hst ⊢
            refine PW.goto 135 (by decide) dX6_farOf_131 ?_
            refine PW.iaddN dX6_farOf_135 ?_
            refine PW.istore (by decide) dX6_farOf_136 (?_ : PW _ _ _ _ [(0, _), (1, _), (2, _), (3, _), (4, _), (5, _), (6, _), (7, _), (8, _), (9, _)] _ _ _)
            refine PW.aload_n rfl rfl dX6_farOf_138 ?_
            refine PW.gR hS.1 (by decide) rfl fX6_53 dX6_farOf_139 ?_
            refine PW.iload rfl dX6_farOf_142 ?_
            refine PW.iload rfl dX6_farOf_144 ?_
            refine PW.aload_n rfl rfl dX6_farOf_146 ?_
            refine PW.gR hS.1 (by decide) rfl fX6_53 dX6_farOf_147 ?_
            refine PW.iload rfl dX6_farOf_150 ?_
            refine PW.aI hS.1 (by decide) rfl (by exact rfl) ⟨by omega, by decide⟩ (hqv) dX6_farOf_152 ?_
            refine PW.icmp_geN 161 (by decide) (by first | omega | (split <;> omega)) (by first | omega | (split <;> omega)) dX6_farOf_153 (fun hc153 => ?_) (fun hc153 => ?_)
            · refine PW.aload_n rfl rfl dX6_farOf_161 ?_
              refine PW.gR hS.1 (by decide) rfl fX6_53 dX6_farOf_162 ?_
              refine PW.iload rfl dX6_farOf_165 ?_
              refine PW.aI hS.1 (by decide) rfl (by exact rfl) ⟨by omega, by decide⟩ (hqv) dX6_farOf_167 ?_
              refine PW.uI hS (by decide) rfl (by exact rfl) ⟨by omega, by decide⟩ dX6_farOf_168 (fun hS hw168 => ?_)
              refine PW.iincN rfl (by decide) dX6_farOf_169 (?_ : PW _ _ _ _ [(0, _), (1, _), (2, _), (3, _), (4, _), (5, _), (6, _), (7, _), (8, _), (9, _)] _ _ _)
              refine PW.goto 65 (by decide) dX6_farOf_172 ?_
              refine PW.drop _ (fun r h => List.mem_of_mem_take (i := 7) h) ?_
              first | exact hno (hoff hc93) | exact hno ((hsb hc93).2.trans ((hsb hc93).1.symm.trans hc103)) | exact hyes hop _ (s1 hin hc114) _ (if_neg (by omega)).symm _ hS (hA.tr (Ag.wI (fun h => h rfl))) hw168 | exact hyes hop _ (s1 hin hc114) _ (if_pos (by omega)).symm _ hS (hA.tr (Ag.wI (fun h => h rfl))) hw168 | exact hyes hop _ e3 _ (if_neg (by omega)).symm _ hS (hA.tr (Ag.wI (fun h => h rfl))) hw168 | exact hyes hop _ e3 _ (if_pos (by omega)).symm _ hS (hA.tr (Ag.wI (fun h => h rfl))) hw168
            · refine PW.iload rfl dX6_farOf_156 ?_
              refine PW.goto 168 (by decide) dX6_farOf_158 ?_
              refine PW.uI hS (by decide) rfl (by exact rfl) ⟨by omega, by decide⟩ dX6_farOf_168 (fun hS hw168 => ?_)
              refine PW.iincN rfl (by decide) dX6_farOf_169 (?_ : PW _ _ _ _ [(0, _), (1, _), (2, _), (3, _), (4, _), (5, _), (6, _), (7, _), (8, _), (9, _)] _ _ _)
              refine PW.goto 65 (by decide) dX6_farOf_172 ?_
              refine PW.drop _ (fun r h => List.mem_of_mem_take (i := 7) h) ?_
              first | exact hno (hoff hc93) | exact hno ((hsb hc93).2.trans ((hsb hc93).1.symm.trans hc103)) | exact hyes hop _ (s1 hin hc114) _ (if_neg (by omega)).symm _ hS (hA.tr (Ag.wI (fun h => h rfl))) hw168 | exact hyes hop _ (s1 hin hc114) _ (if_pos (by omega)).symm _ hS (hA.tr (Ag.wI (fun h => h rfl))) hw168 | exact hyes hop _ e3 _ (if_neg (by omega)).symm _ hS (hA.tr (Ag.wI (fun h => h rfl))) hw168 | exact hyes hop _ e3 _ (if_pos (by omega)).symm _ hS (hA.tr (Ag.wI (fun h => h rfl))) hw168
    · obtain ⟨hS, hA, hv⟩ := hI
      refine PW.iload rfl dX6_farOf_65 ?_
      refine PW.bipush (v := nI 36) (by decide) dX6_farOf_67 ?_
      refine PW.icmp_geN 175 (by decide) (by first | omega | (split <;> omega)) (by first | omega | (split <;> omega)) dX6_farOf_69 (fun hc69 => ?_) (fun hc69 => by exfalso; omega)
      refine PW.iincN rfl (by decide) dX6_farOf_175 (?_ : PW _ _ _ _ [(0, _), (1, _), (2, _), (3, _), (4, _), (5, _), (6, _)] _ _ _)
      refine PW.goto 55 (by decide) dX6_farOf_178 ?_
      exact PW.drop _ (fun r h => List.mem_of_mem_take (i := 6) h) (ih _ ⟨hS, hA, hv⟩)
  · obtain ⟨hS, hA, hv⟩ := hI
    refine PW.iload rfl dX6_farOf_55 ?_
    refine PW.bipush (v := nI 6) (by decide) dX6_farOf_57 ?_
    refine PW.icmp_geN 181 (by decide) (by first | omega | (split <;> omega)) (by first | omega | (split <;> omega)) dX6_farOf_59 (fun hc59 => ?_) (fun hc59 => by exfalso; omega)
    refine PW.aload_n rfl rfl dX6_farOf_181 ?_
    refine PW.gR hS.1 (by decide) rfl fX6_53 dX6_farOf_182 ?_
    refine PW.iload_n rfl rfl dX6_farOf_185 ?_
    refine PW.aI hS.1 (by decide) rfl (by exact rfl) ⟨by omega, by decide⟩ (hv _ (by omega)) dX6_farOf_186 ?_
    refine PW.iret rfl (Nat.le_refl _) (Nat.le_refl _) dX6_farOf_187 ?_
    exact ⟨rfl, hS, hA⟩
end WAYM
