/-! ===== stow: the model ===== -/
section MSTW
variable {b s : Nat} {sc : pw_E} {mem : pw_M} {R : DR} {w : Nat → Nat} {p : Int32} {d : Nat}
def elS (R : DR) (w ρ : Nat → Nat) : Int32 := if okR R ρ = true then nI (cntN w ρ (R 1 0)) else -1
theorem okL_off {R : DR} {ρ : Nat → Nat} {k n : Nat} (h : okL R ρ k = false) (hn : k ≤ n) : okL R ρ n = false := by
  cases q : okL R ρ n
  · rfl
  · rw [show n = k + (n - k) by omega] at q
    rw [okL_le _ q] at h
    cases h
set_option maxHeartbeats 8000000 in
theorem m_elsewhere (hS : St b s sc mem) (hM : MD mem R) (hD : Dat R) (hN : MN mem (R 1 0) w p d) (hw : ∀ t, t < R 1 0 → w t < R 0 0) {ρ : Nat → Nat} (hr : ∀ t, t < R 1 0 → ρ t < R 0 0) (h111 : ∀ t, t < R 1 0 → iv mem 111 t = nI (ρ t)) (h113 : ∀ t, t < R 1 0 → iv mem 113 t = nI (pockN R (R 13 t) (R 0 0))) : Rf 1 mX6_elsewhere [.ref 95] mem (some (.int (elS R w ρ))) mem := by
  have h6 := hD.1
  have hT := hD.2.1
  have hp := pow6 h6
  refine Ret.of (by decide) (Nat.le_of_ble_eq_true rfl) fun l G => ?_
  show PW _ _ _ _ [(0, _)] _ _ _
  refine PW.iconst (v := nI 0) (by decide) dX6_elsewhere_0 ?_
  refine PW.istore_n rfl (by decide) dX6_elsewhere_1 (?_ : PW _ _ _ _ [(0, _), (1, _)] _ _ _)
  refine PW.iconst (v := nI 0) (by decide) dX6_elsewhere_2 ?_
  refine PW.istore_n rfl (by decide) dX6_elsewhere_3 (?_ : PW _ _ _ _ [(0, _), (1, _), (2, _)] _ _ _)
  skip
  refine PW.loop (σ := Unit) (I := fun t _ => okL R ρ t = true) (fun t _ => [(0, .ref 95), (1, .int (nI (cntN w ρ t))), (2, .int (nI t))]) (fun _ _ => mem) (R 1 0) (fun t _ ht hI ih => ?_) (fun _ hI => ?_) () rfl
  · have d13 := (hD.2.2.2.2.2.2 t ht).1
    have hl := pockN_lt R (R 13 t) (R 0 0)
    have hrt := hr t ht
    have hwt := hw t ht
    have hbt := pockN_bit R (R 13 t) (R 0 0) (ρ t)
    rw [decide_eq_true hrt, Bool.true_and] at hbt
    have eo : okL R ρ (t + 1) = letN R (ρ t) (R 13 t) := by rw [okL, hI, Bool.true_and]
    have ec : cntN w ρ (t + 1) = cntN w ρ t + if ρ t = w t then 0 else 1 := rfl
    refine PW.iload_n rfl rfl dX6_elsewhere_4 ?_
    refine PW.aload_n rfl rfl dX6_elsewhere_5 ?_
    refine PW.gI hS.1 (by decide) rfl (hM.2.1) fX6_86 dX6_elsewhere_6 ?_
    refine PW.icmp_geN 61 (by decide) (by first | omega | (split <;> omega)) (by first | omega | (split <;> omega)) dX6_elsewhere_9 (fun hc9 => by exfalso; omega) (fun hc9 => ?_)
    refine PW.aload_n rfl rfl dX6_elsewhere_12 ?_
    refine PW.gR hS.1 (by decide) rfl fX6_62 dX6_elsewhere_13 ?_
    refine PW.iload_n rfl rfl dX6_elsewhere_16 ?_
    refine PW.aI hS.1 (by decide) rfl (by exact rfl) ⟨by omega, by decide⟩ (h113 t ht) dX6_elsewhere_17 ?_
    refine PW.aload_n rfl rfl dX6_elsewhere_18 ?_
    refine PW.gR hS.1 (by decide) rfl fX6_56 dX6_elsewhere_19 ?_
    refine PW.iload_n rfl rfl dX6_elsewhere_22 ?_
    refine PW.aI hS.1 (by decide) rfl (by exact rfl) ⟨by omega, by decide⟩ (h111 t ht) dX6_elsewhere_23 ?_
    refine PW.cS _ kX6_165 (m_has (a := pockN R (R 13 t) (R 0 0)) (k := ρ t) (by omega) (by omega) mem) rfl rfl (Nat.le_of_ble_eq_true rfl) ⟨by decide, by decide⟩ ⟨Nat.zero_le _, Nat.zero_le _⟩ dX6_elsewhere_24 ?_
    refine PW.if_neB 32 (by decide) dX6_elsewhere_27 (fun hc27 => ?_) (fun hc27 => ?_)
    · refine PW.iload_n rfl rfl dX6_elsewhere_32 ?_
      refine PW.aload_n rfl rfl dX6_elsewhere_33 ?_
      refine PW.gR hS.1 (by decide) rfl fX6_56 dX6_elsewhere_34 ?_
      refine PW.iload_n rfl rfl dX6_elsewhere_37 ?_
      refine PW.aI hS.1 (by decide) rfl (by exact rfl) ⟨by omega, by decide⟩ (h111 t ht) dX6_elsewhere_38 ?_
      refine PW.aload_n rfl rfl dX6_elsewhere_39 ?_
      refine PW.gR hS.1 (by decide) rfl fX6_32 dX6_elsewhere_40 ?_
      refine PW.iload_n rfl rfl dX6_elsewhere_43 ?_
      refine PW.aI hS.1 (by decide) rfl (by exact rfl) ⟨by omega, by decide⟩ (hN.1 t ht) dX6_elsewhere_44 ?_
      refine PW.icmp_neN 52 (by decide) (by first | omega | (split <;> omega)) (by first | omega | (split <;> omega)) dX6_elsewhere_45 (fun hc45 => ?_) (fun hc45 => ?_)
      · refine PW.iconst (v := nI 1) (by decide) dX6_elsewhere_52 ?_
        refine PW.iaddN dX6_elsewhere_53 ?_
        refine PW.istore_n rfl (by decide) dX6_elsewhere_54 (?_ : PW _ _ _ _ [(0, _), (1, _), (2, _)] _ _ _)
        refine PW.iincN rfl (by decide) dX6_elsewhere_55 (?_ : PW _ _ _ _ [(0, _), (1, _), (2, _)] _ _ _)
        refine PW.goto 4 (by decide) dX6_elsewhere_58 ?_
        first | (rw [ec, if_pos hc45] at ih; exact ih () (eo.trans (hbt.symm.trans hc27))) | (rw [ec, if_neg hc45] at ih; exact ih () (eo.trans (hbt.symm.trans hc27)))
      · refine PW.iconst (v := nI 0) (by decide) dX6_elsewhere_48 ?_
        refine PW.goto 53 (by decide) dX6_elsewhere_49 ?_
        refine PW.iaddN dX6_elsewhere_53 ?_
        refine PW.istore_n rfl (by decide) dX6_elsewhere_54 (?_ : PW _ _ _ _ [(0, _), (1, _), (2, _)] _ _ _)
        refine PW.iincN rfl (by decide) dX6_elsewhere_55 (?_ : PW _ _ _ _ [(0, _), (1, _), (2, _)] _ _ _)
        refine PW.goto 4 (by decide) dX6_elsewhere_58 ?_
        first | (rw [ec, if_pos hc45] at ih; exact ih () (eo.trans (hbt.symm.trans hc27))) | (rw [ec, if_neg hc45] at ih; exact ih () (eo.trans (hbt.symm.trans hc27)))
    · refine PW.iconst (v := -1) (by decide) dX6_elsewhere_30 ?_
      refine PW.iret rfl (Nat.le_refl _) (Nat.le_refl _) dX6_elsewhere_31 ?_
      exact ⟨by rw [elS, if_neg (fun q => by have h1 := (okR_iff.mp q).1; rw [okL_off (k := t + 1) (eo.trans (hbt.symm.trans hc27)) (by omega)] at h1; cases h1)], rfl⟩
  have hcn := cntN_n (w := w) (ρ := ρ) (R 1 0)
  refine PW.iload_n rfl rfl dX6_elsewhere_4 ?_
  refine PW.aload_n rfl rfl dX6_elsewhere_5 ?_
  refine PW.gI hS.1 (by decide) rfl (hM.2.1) fX6_86 dX6_elsewhere_6 ?_
  refine PW.icmp_geN 61 (by decide) (by first | omega | (split <;> omega)) (by first | omega | (split <;> omega)) dX6_elsewhere_9 (fun hc9 => ?_) (fun hc9 => by exfalso; omega)
  refine PW.iconst (v := nI 0) (by decide) dX6_elsewhere_61 ?_
  refine PW.istore_n rfl (by decide) dX6_elsewhere_62 (?_ : PW _ _ _ _ [(0, _), (1, _), (2, _)] _ _ _)
  skip
  refine PW.loop (σ := Unit) (I := fun k _ => ∀ q, q < k → fillN R ρ q (R 1 0) ≤ R 3 q) (fun k _ => [(0, .ref 95), (1, .int (nI (cntN w ρ (R 1 0)))), (2, .int (nI k))]) (fun _ _ => mem) (R 0 0) (fun k _ hk hI2 ih => ?_) (fun _ hI2 => ?_) () (fun q hq => absurd hq (Nat.not_lt_zero _))
  · have hs3 := (hD.2.2.2.1 k hk).2.1
    have hfl := fillN_le (R := R) (w := ρ) (k := k) (n := R 1 0) (fun t ht => (hD.2.2.2.2.2.2 t ht).2.2.1)
    refine PW.iload_n rfl rfl dX6_elsewhere_63 ?_
    refine PW.aload_n rfl rfl dX6_elsewhere_64 ?_
    refine PW.gI hS.1 (by decide) rfl (hM.1) fX6_78 dX6_elsewhere_65 ?_
    refine PW.icmp_geN 137 (by decide) (by first | omega | (split <;> omega)) (by first | omega | (split <;> omega)) dX6_elsewhere_68 (fun hc68 => by exfalso; omega) (fun hc68 => ?_)
    refine PW.iconst (v := nI 0) (by decide) dX6_elsewhere_71 ?_
    refine PW.istore_n rfl (by decide) dX6_elsewhere_72 (?_ : PW _ _ _ _ [(0, _), (1, _), (2, _), (3, _)] _ _ _)
    refine PW.iconst (v := nI 0) (by decide) dX6_elsewhere_73 ?_
    refine PW.istore (by decide) dX6_elsewhere_74 (?_ : PW _ _ _ _ [(0, _), (1, _), (2, _), (3, _), (4, _)] _ _ _)
    skip
    refine PW.up (fun j => [(0, .ref 95), (1, .int (nI (cntN w ρ (R 1 0)))), (2, .int (nI k)), (3, .int (nI (fillN R ρ k j))), (4, .int (nI j))]) (fun _ => mem) (R 1 0) (fun j hj ih2 => ?_) ?_
    · have hrt := hr j hj
      have q14 := (hD.2.2.2.2.2.2 j hj).2.2.1
      have ef : fillN R ρ k (j + 1) = fillN R ρ k j + if ρ j = k then R 14 j else 0 := rfl
      refine PW.iload rfl dX6_elsewhere_76 ?_
      refine PW.aload_n rfl rfl dX6_elsewhere_78 ?_
      refine PW.gI hS.1 (by decide) rfl (hM.2.1) fX6_86 dX6_elsewhere_79 ?_
      refine PW.icmp_geN 116 (by decide) (by first | omega | (split <;> omega)) (by first | omega | (split <;> omega)) dX6_elsewhere_82 (fun hc82 => by exfalso; omega) (fun hc82 => ?_)
      refine PW.iload_n rfl rfl dX6_elsewhere_85 ?_
      refine PW.aload_n rfl rfl dX6_elsewhere_86 ?_
      refine PW.gR hS.1 (by decide) rfl fX6_56 dX6_elsewhere_87 ?_
      refine PW.iload rfl dX6_elsewhere_90 ?_
      refine PW.aI hS.1 (by decide) rfl (by exact rfl) ⟨by omega, by decide⟩ (h111 j hj) dX6_elsewhere_92 ?_
      refine PW.iload_n rfl rfl dX6_elsewhere_93 ?_
      refine PW.icmp_neN 107 (by decide) (by first | omega | (split <;> omega)) (by first | omega | (split <;> omega)) dX6_elsewhere_94 (fun hc94 => ?_) (fun hc94 => ?_)
      · refine PW.iconst (v := nI 0) (by decide) dX6_elsewhere_107 ?_
        refine PW.iaddN dX6_elsewhere_108 ?_
        refine PW.istore_n rfl (by decide) dX6_elsewhere_109 (?_ : PW _ _ _ _ [(0, _), (1, _), (2, _), (3, _), (4, _)] _ _ _)
        refine PW.iincN rfl (by decide) dX6_elsewhere_110 (?_ : PW _ _ _ _ [(0, _), (1, _), (2, _), (3, _), (4, _)] _ _ _)
        refine PW.goto 76 (by decide) dX6_elsewhere_113 ?_
        first | (rw [ef, if_pos hc94] at ih2; exact ih2) | (rw [ef, if_neg hc94] at ih2; exact ih2)
      · refine PW.aload_n rfl rfl dX6_elsewhere_97 ?_
        refine PW.gR hS.1 (by decide) rfl fX6_26 dX6_elsewhere_98 ?_
        refine PW.iload rfl dX6_elsewhere_101 ?_
        refine PW.aI hS.1 (by decide) rfl (by exact rfl) ⟨by omega, by decide⟩ ((hM.2.2.2.2.2 j hj).2.1) dX6_elsewhere_103 ?_
        refine PW.goto 108 (by decide) dX6_elsewhere_104 ?_
        refine PW.iaddN dX6_elsewhere_108 ?_
        refine PW.istore_n rfl (by decide) dX6_elsewhere_109 (?_ : PW _ _ _ _ [(0, _), (1, _), (2, _), (3, _), (4, _)] _ _ _)
        refine PW.iincN rfl (by decide) dX6_elsewhere_110 (?_ : PW _ _ _ _ [(0, _), (1, _), (2, _), (3, _), (4, _)] _ _ _)
        refine PW.goto 76 (by decide) dX6_elsewhere_113 ?_
        first | (rw [ef, if_pos hc94] at ih2; exact ih2) | (rw [ef, if_neg hc94] at ih2; exact ih2)
    · refine PW.iload rfl dX6_elsewhere_76 ?_
      refine PW.aload_n rfl rfl dX6_elsewhere_78 ?_
      refine PW.gI hS.1 (by decide) rfl (hM.2.1) fX6_86 dX6_elsewhere_79 ?_
      refine PW.icmp_geN 116 (by decide) (by first | omega | (split <;> omega)) (by first | omega | (split <;> omega)) dX6_elsewhere_82 (fun hc82 => ?_) (fun hc82 => by exfalso; omega)
      refine PW.iload_n rfl rfl dX6_elsewhere_116 ?_
      refine PW.aload_n rfl rfl dX6_elsewhere_117 ?_
      refine PW.gR hS.1 (by decide) rfl fX6_13 dX6_elsewhere_118 ?_
      refine PW.bipush (v := nI 8) (by decide) dX6_elsewhere_121 ?_
      refine PW.iload_n rfl rfl dX6_elsewhere_123 ?_
      refine PW.imulN dX6_elsewhere_124 ?_
      refine PW.aI hS.1 (by decide) rfl (by exact rfl) ⟨by omega, by decide⟩ ((hM.2.2.2.1 k hk).1) dX6_elsewhere_125 ?_
      refine PW.icmp_leN 131 (by decide) (by first | omega | (split <;> omega)) (by first | omega | (split <;> omega)) dX6_elsewhere_126 (fun hc126 => ?_) (fun hc126 => ?_)
      · refine PW.iincN rfl (by decide) dX6_elsewhere_131 (?_ : PW _ _ _ _ [(0, _), (1, _), (2, _), (3, _), (4, _)] _ _ _)
        refine PW.goto 63 (by decide) dX6_elsewhere_134 ?_
        refine PW.drop _ (fun r h => List.mem_of_mem_take (i := 3) h) (ih () (fun q hq => ?_))
        by_cases e : q = k
        · rw [e]; omega
        · exact hI2 q (by omega)
      · refine PW.iconst (v := -1) (by decide) dX6_elsewhere_129 ?_
        refine PW.iret rfl (Nat.le_refl _) (Nat.le_refl _) dX6_elsewhere_130 ?_
        exact ⟨by rw [elS, if_neg (fun q => by have h1 := (okR_iff.mp q).2 k hk; omega)], rfl⟩
  · refine PW.iload_n rfl rfl dX6_elsewhere_63 ?_
    refine PW.aload_n rfl rfl dX6_elsewhere_64 ?_
    refine PW.gI hS.1 (by decide) rfl (hM.1) fX6_78 dX6_elsewhere_65 ?_
    refine PW.icmp_geN 137 (by decide) (by first | omega | (split <;> omega)) (by first | omega | (split <;> omega)) dX6_elsewhere_68 (fun hc68 => ?_) (fun hc68 => by exfalso; omega)
    refine PW.iload_n rfl rfl dX6_elsewhere_137 ?_
    refine PW.iret rfl (Nat.le_refl _) (Nat.le_refl _) dX6_elsewhere_138 ?_
    exact ⟨by rw [elS, if_pos (okR_iff.mpr ⟨hI, hI2⟩)], rfl⟩
theorem stw_in {t : Int32} {n : Nat} (hn : n < 2 ^ 30) : decide ((-1 : Int64) ≤ t.toInt64 ∧ t.toInt64 ≤ (nI n - nI 1).toInt64) = true ↔ (t = -1 ∨ inR t n = true) := by
  rw [decide_eq_true_iff, Int64.le_iff_toInt_le, Int64.le_iff_toInt_le, Int32.toInt_toInt64, Int32.toInt_toInt64, sub1_toInt hn, show (-1 : Int64).toInt = -1 from rfl]
  unfold inR
  rw [decide_eq_true_iff]
  constructor
  · intro ⟨h1, h2⟩
    by_cases e : t.toInt = -1
    · exact Or.inl (Int32.toInt_inj.mp e)
    · exact Or.inr ⟨by omega, by omega⟩
  · rintro (h | h)
    · rw [h, show (-1 : Int32).toInt = -1 from rfl]; omega
    · omega
/-- a count downward -/
def dnI (T j : Nat) : Int32 := if j < T then nI (T - 1 - j) else -1
theorem dnI_0 {T : Nat} (h : T ≤ 6) : nI T - nI 1 = dnI T 0 := by
  unfold dnI
  by_cases e : T = 0
  · subst e; decide
  · rw [if_pos (by omega), pk_sub (by omega)]; rfl
theorem dnI_1 : ∀ T, T ≤ 6 → ∀ j, j < T → dnI T j + Int32.ofInt (-1) = dnI T (j + 1) := by decide
end MSTW
