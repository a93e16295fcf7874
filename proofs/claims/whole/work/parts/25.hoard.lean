/-! ===== hoard: class and model ===== -/
def selW (R : DR) (c : Nat) : Nat → Nat
  | 0 => 0
  | t + 1 => selW R c t + if c.testBit t then R 15 t else 0
def selB (R : DR) (c : Nat) : Nat → Nat
  | 0 => 0
  | t + 1 => selB R c t + if c.testBit t then R 14 t else 0
def selO (R : DR) (k c : Nat) : Nat → Bool
  | 0 => true
  | t + 1 => selO R k c t && (!c.testBit t || letN R k (R 13 t))
def selL (R : DR) (k c : Nat) : Nat → Nat
  | 0 => 0
  | t + 1 => selL R k c t + if c.testBit t then (if letN R k (R 13 t) then R 14 t else 200) else 0
def selK (R : DR) (k c : Nat) : Bool := selO R k c (R 1 0) && decide (selB R c (R 1 0) ≤ R 3 k)
def hoaN (R : DR) (k : Nat) : Nat → Nat
  | 0 => 0
  | c + 1 => if selK R k c = true ∧ hoaN R k c < selW R c (R 1 0) then selW R c (R 1 0) else hoaN R k c
def hoaS (R : DR) (k : Int32) : Int32 := if inR k (R 0 0) then nI (hoaN R (cl k) (2 ^ R 1 0)) else -1
theorem selW_le {R : DR} (hD : Dat R) (c : Nat) : ∀ t, t ≤ R 1 0 → selW R c t ≤ 9 * t
  | 0, _ => Nat.le_refl _
  | t + 1, h => by
    have ih := selW_le hD c t (by omega)
    have hd := (hD.2.2.2.2.2.2 t (by omega)).2.2.2.1
    unfold selW
    split <;> omega
theorem selB_le {R : DR} (hD : Dat R) (c : Nat) : ∀ t, t ≤ R 1 0 → selB R c t ≤ 5 * t
  | 0, _ => Nat.le_refl _
  | t + 1, h => by
    have ih := selB_le hD c t (by omega)
    have hd := (hD.2.2.2.2.2.2 t (by omega)).2.2.1
    unfold selB
    split <;> omega
theorem selL_le {R : DR} (hD : Dat R) (k c : Nat) : ∀ t, t ≤ R 1 0 → selL R k c t ≤ 200 * t
  | 0, _ => Nat.le_refl _
  | t + 1, h => by
    have ih := selL_le hD k c t (by omega)
    have hd := (hD.2.2.2.2.2.2 t (by omega)).2.2.1
    unfold selL
    split
    · split <;> omega
    · omega
theorem selL_ok {R : DR} (k c : Nat) : ∀ t, selO R k c t = true → selL R k c t = selB R c t
  | 0, _ => rfl
  | t + 1, h => by
    unfold selO at h
    rw [Bool.and_eq_true] at h
    have ih := selL_ok k c t h.1
    unfold selL selB
    rw [ih]
    by_cases hb : c.testBit t = true
    · rw [if_pos hb, if_pos hb]
      have := h.2
      rw [hb] at this
      rw [if_pos (by simpa using this)]
    · rw [if_neg hb, if_neg hb]
theorem selL_no {R : DR} (k c : Nat) : ∀ t, selO R k c t = false → 200 ≤ selL R k c t
  | 0, h => by cases h
  | t + 1, h => by
    unfold selO at h
    unfold selL
    by_cases h1 : selO R k c t = true
    · rw [h1, Bool.true_and] at h
      rw [Bool.or_eq_false_iff] at h
      have hb : c.testBit t = true := by simpa using h.1
      rw [if_pos hb, h.2]
      exact Nat.le_add_left _ _
    · have ih := selL_no k c t (Bool.eq_false_iff.mpr h1)
      omega
theorem selO_mono {R : DR} (k c : Nat) : ∀ t n, n ≤ t → selO R k c n = false → selO R k c t = false
  | 0, n, h, h1 => by rw [show n = 0 by omega] at h1; exact h1
  | t + 1, n, h, h1 => by
    by_cases hn : n = t + 1
    · rw [hn] at h1; exact h1
    · unfold selO
      rw [selO_mono k c t n (by omega) h1, Bool.false_and]
theorem selK_iff {R : DR} (hD : Dat R) {k : Nat} (hk : k < R 0 0) (c : Nat) : selK R k c = true ↔ selL R k c (R 1 0) ≤ R 3 k := by
  have h3 := (hD.2.2.2.1 k hk).2.1
  unfold selK
  by_cases h : selO R k c (R 1 0) = true
  · rw [h, Bool.true_and, selL_ok k c _ h, decide_eq_true_iff]
  · have h' := Bool.eq_false_iff.mpr h
    have := selL_no k c _ h'
    rw [h', Bool.false_and]
    exact ⟨fun q => absurd q (by decide), fun q => absurd q (by omega)⟩
theorem hoaN_le {R : DR} (hD : Dat R) (k : Nat) : ∀ c, hoaN R k c ≤ 54
  | 0 => Nat.zero_le _
  | c + 1 => by
    have ih := hoaN_le hD k c
    have := selW_le hD c (R 1 0) (Nat.le_refl _)
    have hT := hD.2.1
    unfold hoaN
    split <;> omega
section HOARD
variable {b s : Nat} {sc : pw_E} {mem : pw_M} {R : DR} {w : Nat → Nat} {p : Int32} {d : Nat} {e n K T L : Nat}
set_option maxHeartbeats 4000000 in
theorem x_worthOf (hS : St b s sc mem) (he : e = 49 ∨ e = 72) (hX : XD mem e R) (hL : XL mem e R) (hD : Dat R) {c k : Nat} (hc : c < 64) (hk : k < R 0 0) : Rf 1 mX2_worthOf [.ref e, .int (nI c), .int (nI k)] mem (some (.int (if selK R k c then nI (selW R c (R 1 0)) else -1))) mem := by
  have h6 := hD.1
  have hT := hD.2.1
  have h3 := (hD.2.2.2.1 k hk).2.1
  have hl := letsN_lt R k 6
  refine Ret.of (by decide) (Nat.le_of_ble_eq_true rfl) fun l G => ?_
  show PW _ _ _ _ [(0, _), (1, _), (2, _)] _ _ _
  refine PW.iconst (v := nI 0) (by decide) dX2_worthOf_0 ?_
  refine PW.istore_n rfl (by decide) dX2_worthOf_1 (?_ : PW _ _ _ _ [(0, _), (1, _), (2, _), (3, _)] _ _ _)
  refine PW.iconst (v := nI 0) (by decide) dX2_worthOf_2 ?_
  refine PW.istore (by decide) dX2_worthOf_3 (?_ : PW _ _ _ _ [(0, _), (1, _), (2, _), (3, _), (4, _)] _ _ _)
  refine PW.iconst (v := nI 0) (by decide) dX2_worthOf_5 ?_
  refine PW.istore (by decide) dX2_worthOf_6 (?_ : PW _ _ _ _ [(0, _), (1, _), (2, _), (3, _), (4, _), (5, _)] _ _ _)
  skip
  refine PW.loop (σ := Unit) (I := fun j _ => selO R k c j = true) (fun j _ => [(0, .ref e), (1, .int (nI c)), (2, .int (nI k)), (3, .int (nI (selW R c j))), (4, .int (nI (selB R c j))), (5, .int (nI j))]) (fun _ _ => mem) (R 1 0) (fun j _ hj hI ih => ?_) (fun _ hI => ?_) () rfl
  · have ew : selW R c (j + 1) = selW R c j + if c.testBit j then R 15 j else 0 := rfl
    have eb : selB R c (j + 1) = selB R c j + if c.testBit j then R 14 j else 0 := rfl
    have eo : selO R k c (j + 1) = (selO R k c j && (!c.testBit j || letN R k (R 13 j))) := rfl
    have dj := hD.2.2.2.2.2.2 j hj
    obtain ⟨x1, x2, x3, -⟩ := hX.2.2.2.2.2.2 j hj
    have hbt := letsN_bit R k 6 (R 13 j)
    rw [decide_eq_true dj.1, Bool.true_and] at hbt
    refine PW.iload rfl dX2_worthOf_8 ?_
    refine PW.aload_n rfl rfl dX2_worthOf_10 ?_
    refine PW.gI hS.1 (by have := he; omega) (skR1 he) (hX.2.1) fX2_66 dX2_worthOf_11 ?_
    refine PW.icmp_geN 75 (by decide) (by first | omega | (split <;> omega)) (by first | omega | (split <;> omega)) dX2_worthOf_14 (fun hc14 => by exfalso; omega) (fun hc14 => ?_)
    refine PW.iload_n rfl rfl dX2_worthOf_17 ?_
    refine PW.iload rfl dX2_worthOf_18 ?_
    refine PW.cSN _ kX2_107 (x_has (a := c) (k := j) (by omega) (by omega) mem) rfl rfl (Nat.le_of_ble_eq_true rfl) ⟨by decide, by decide⟩ ⟨Nat.zero_le _, Nat.zero_le _⟩ dX2_worthOf_20 ?_
    refine PW.if_eqB 69 (by decide) dX2_worthOf_23 (fun hc23 => ?_) (fun hc23 => ?_)
    · refine PW.iincN rfl (by decide) dX2_worthOf_69 (?_ : PW _ _ _ _ [(0, _), (1, _), (2, _), (3, _), (4, _), (5, _)] _ _ _)
      refine PW.goto 8 (by decide) dX2_worthOf_72 ?_
      first | (rw [ew, eb, hc23] at ih; exact ih () (by rw [eo, hI, hc23, ← hbt, hc42]; rfl)) | (rw [ew, eb, hc23] at ih; exact ih () (by rw [eo, hI, hc23]; rfl))
    · refine PW.aload_n rfl rfl dX2_worthOf_26 ?_
      refine PW.gR hS.1 (by have := he; omega) (skR17 he) fX2_56 dX2_worthOf_27 ?_
      refine PW.iload_n rfl rfl dX2_worthOf_30 ?_
      refine PW.aI hS.1 (by have := he; omega) (akR21 he) (by exact rfl) ⟨by omega, by decide⟩ (hL.1 _ hk) dX2_worthOf_31 ?_
      refine PW.aload_n rfl rfl dX2_worthOf_32 ?_
      refine PW.gR hS.1 (by have := he; omega) (skR13 he) fX2_44 dX2_worthOf_33 ?_
      refine PW.iload rfl dX2_worthOf_36 ?_
      refine PW.aI hS.1 (by have := he; omega) (akR17 he) (by exact rfl) ⟨by omega, by decide⟩ (x1) dX2_worthOf_38 ?_
      refine PW.cSN _ kX2_107 (x_has (a := letsN R k 6) (k := R 13 j) (by omega) (by omega) mem) rfl rfl (Nat.le_of_ble_eq_true rfl) ⟨by decide, by decide⟩ ⟨Nat.zero_le _, Nat.zero_le _⟩ dX2_worthOf_39 ?_
      refine PW.if_neB 47 (by decide) dX2_worthOf_42 (fun hc42 => ?_) (fun hc42 => ?_)
      · refine PW.iload_n rfl rfl dX2_worthOf_47 ?_
        refine PW.aload_n rfl rfl dX2_worthOf_48 ?_
        refine PW.gR hS.1 (by have := he; omega) (skR15 he) fX2_50 dX2_worthOf_49 ?_
        refine PW.iload rfl dX2_worthOf_52 ?_
        refine PW.aI hS.1 (by have := he; omega) (akR19 he) (by exact rfl) ⟨by omega, by decide⟩ (x3) dX2_worthOf_54 ?_
        refine PW.iaddN dX2_worthOf_55 ?_
        refine PW.istore_n rfl (by decide) dX2_worthOf_56 (?_ : PW _ _ _ _ [(0, _), (1, _), (2, _), (3, _), (4, _), (5, _)] _ _ _)
        refine PW.iload rfl dX2_worthOf_57 ?_
        refine PW.aload_n rfl rfl dX2_worthOf_59 ?_
        refine PW.gR hS.1 (by have := he; omega) (skR14 he) fX2_47 dX2_worthOf_60 ?_
        refine PW.iload rfl dX2_worthOf_63 ?_
        refine PW.aI hS.1 (by have := he; omega) (akR18 he) (by exact rfl) ⟨by omega, by decide⟩ (x2) dX2_worthOf_65 ?_
        refine PW.iaddN dX2_worthOf_66 ?_
        refine PW.istore (by decide) dX2_worthOf_67 (?_ : PW _ _ _ _ [(0, _), (1, _), (2, _), (3, _), (4, _), (5, _)] _ _ _)
        refine PW.iincN rfl (by decide) dX2_worthOf_69 (?_ : PW _ _ _ _ [(0, _), (1, _), (2, _), (3, _), (4, _), (5, _)] _ _ _)
        refine PW.goto 8 (by decide) dX2_worthOf_72 ?_
        first | (rw [ew, eb, hc23] at ih; exact ih () (by rw [eo, hI, hc23, ← hbt, hc42]; rfl)) | (rw [ew, eb, hc23] at ih; exact ih () (by rw [eo, hI, hc23]; rfl))
      · refine PW.iconst (v := -1) (by decide) dX2_worthOf_45 ?_
        refine PW.iret rfl (Nat.le_refl _) (Nat.le_refl _) dX2_worthOf_46 ?_
        exact ⟨by rw [selK, selO_mono k c (R 1 0) (j + 1) (by omega) (by rw [eo, hI, hc23, ← hbt, hc42]; rfl)]; rfl, rfl⟩
  · have hb := selB_le hD c (R 1 0) (Nat.le_refl _)
    refine PW.iload rfl dX2_worthOf_8 ?_
    refine PW.aload_n rfl rfl dX2_worthOf_10 ?_
    refine PW.gI hS.1 (by have := he; omega) (skR1 he) (hX.2.1) fX2_66 dX2_worthOf_11 ?_
    refine PW.icmp_geN 75 (by decide) (by first | omega | (split <;> omega)) (by first | omega | (split <;> omega)) dX2_worthOf_14 (fun hc14 => ?_) (fun hc14 => by exfalso; omega)
    refine PW.iload rfl dX2_worthOf_75 ?_
    refine PW.aload_n rfl rfl dX2_worthOf_77 ?_
    refine PW.gR hS.1 (by have := he; omega) (skR3 he) fX2_9 dX2_worthOf_78 ?_
    refine PW.iload_n rfl rfl dX2_worthOf_81 ?_
    refine PW.aI hS.1 (by have := he; omega) (akR1 he) (by exact rfl) ⟨by omega, by decide⟩ ((hX.2.2.2.1 k hk).1) dX2_worthOf_82 ?_
    refine PW.icmp_gtN 90 (by decide) (by first | omega | (split <;> omega)) (by first | omega | (split <;> omega)) dX2_worthOf_83 (fun hc83 => ?_) (fun hc83 => ?_)
    · refine PW.iconst (v := -1) (by decide) dX2_worthOf_90 ?_
      refine PW.iret rfl (Nat.le_refl _) (Nat.le_refl _) dX2_worthOf_91 ?_
      first | exact ⟨by rw [selK, hI, Bool.true_and, decide_eq_false (by omega)]; rfl, rfl⟩ | exact ⟨by rw [selK, hI, Bool.true_and, decide_eq_true (by omega)]; rfl, rfl⟩
    · refine PW.iload_n rfl rfl dX2_worthOf_86 ?_
      refine PW.goto 91 (by decide) dX2_worthOf_87 ?_
      refine PW.iret rfl (Nat.le_refl _) (Nat.le_refl _) dX2_worthOf_91 ?_
      first | exact ⟨by rw [selK, hI, Bool.true_and, decide_eq_false (by omega)]; rfl, rfl⟩ | exact ⟨by rw [selK, hI, Bool.true_and, decide_eq_true (by omega)]; rfl, rfl⟩
set_option maxHeartbeats 4000000 in
theorem x_hoard (hS : St b s sc mem) (hX : XD mem b R) (hL : XL mem b R) (hD : Dat R) (k : Int32) : Rf 2 mX5_hoard [.ref 9, .int k] mem (some (.int (hoaS R k))) mem := by
  have hT := hD.2.1
  have h6 := hD.1
  have hp := pow6 hT
  by_cases hk : inR k (R 0 0) = true
  · obtain ⟨k, hk', rfl⟩ := inR_of hk
    have hv : hoaS R (nI k) = nI (hoaN R k (2 ^ R 1 0)) := by rw [hoaS, if_pos hk, cl_nI (by omega)]
    rw [hv]
    refine Ret.of (by decide) (Nat.le_of_ble_eq_true rfl) fun l G => ?_
    show PW _ _ _ _ [(0, _), (1, _)] _ _ _
    refine PW.aload_n rfl rfl dX5_hoard_0 ?_
    refine PW.iload_n rfl rfl dX5_hoard_1 ?_
    refine PW.cV (ci := 5) (j := 0) _ hS.1 (by decide) rfl kX5_93 (x_isPocket hS hX hD _) rfl rfl (Nat.le_of_ble_eq_true rfl) rfl ⟨by decide, by decide⟩ ⟨Nat.zero_le _, Nat.zero_le _⟩ dX5_hoard_2 ?_
    refine PW.if_neB 10 (by decide) dX5_hoard_5 (fun hc5 => ?_) (fun hc5 => by (rw [hk] at hc5; cases hc5))
    refine PW.iconst (v := nI 0) (by decide) dX5_hoard_10 ?_
    refine PW.istore_n rfl (by decide) dX5_hoard_11 (?_ : PW _ _ _ _ [(0, _), (1, _), (2, _)] _ _ _)
    refine PW.iconst (v := nI 0) (by decide) dX5_hoard_12 ?_
    refine PW.istore_n rfl (by decide) dX5_hoard_13 (?_ : PW _ _ _ _ [(0, _), (1, _), (2, _), (3, _)] _ _ _)
    skip
    refine PW.up (fun j => [(0, .ref 9), (1, .int (nI k)), (2, .int (nI (hoaN R k j))), (3, .int (nI j))]) (fun _ => mem) (2 ^ R 1 0) (fun j hj ih => ?_) ?_
    · have eh : hoaN R k (j + 1) = if selK R k j = true ∧ hoaN R k j < selW R j (R 1 0) then selW R j (R 1 0) else hoaN R k j := rfl
      have hle := hoaN_le hD k j
      have hwl := selW_le hD j (R 1 0) (Nat.le_refl _)
      have hW := x_worthOf hS hS.b hX hL hD (c := j) (k := k) (by omega) hk'
      by_cases hok : selK R k j = true
      · rw [if_pos hok] at hW
        refine PW.iload_n rfl rfl dX5_hoard_14 ?_
        refine PW.iconst (v := nI 1) (by decide) dX5_hoard_15 ?_
        refine PW.aload_n rfl rfl dX5_hoard_16 ?_
        refine PW.gV hS.1 (by decide) rfl hS.2.1 fX5_58 dX5_hoard_17 ?_
        refine PW.gI hS.1 (by have := hS.b; omega) (skR1 hS.b) (hX.2.1) fX5_177 dX5_hoard_20 ?_
        refine PW.ishl1 (by omega) dX5_hoard_23 ?_
        refine PW.icmp_geN 47 (by decide) (by first | omega | (split <;> omega)) (by first | omega | (split <;> omega)) dX5_hoard_24 (fun hc24 => by (exfalso; omega)) (fun hc24 => ?_)
        refine PW.iload_n rfl rfl dX5_hoard_27 ?_
        refine PW.aload_n rfl rfl dX5_hoard_28 ?_
        refine PW.gV hS.1 (by decide) rfl hS.2.1 fX5_58 dX5_hoard_29 ?_
        refine PW.iload_n rfl rfl dX5_hoard_32 ?_
        refine PW.iload_n rfl rfl dX5_hoard_33 ?_
        refine PW.cV (ci := 2) (j := 0) _ hS.1 (by have := hS.b; omega) (skR0 hS.b) kX5_197 (hW) rfl rfl (Nat.le_of_ble_eq_true rfl) rfl ⟨by decide, by decide⟩ ⟨Nat.zero_le _, Nat.zero_le _⟩ dX5_hoard_34 ?_
        refine PW.mmaxN kX5_201 ⟨by decide, by decide⟩ ⟨Nat.zero_le _, Nat.zero_le _⟩ (Nat.le_of_ble_eq_true rfl) (by first | omega | (split <;> omega)) (by first | omega | (split <;> omega)) dX5_hoard_37 ?_
        refine PW.istore_n rfl (by decide) dX5_hoard_40 (?_ : PW _ _ _ _ [(0, _), (1, _), (2, _), (3, _)] _ _ _)
        refine PW.iincN rfl (by decide) dX5_hoard_41 (?_ : PW _ _ _ _ [(0, _), (1, _), (2, _), (3, _)] _ _ _)
        refine PW.goto 14 (by decide) dX5_hoard_44 ?_
        (by_cases hlt : hoaN R k j < selW R j (R 1 0))
        · rw [eh, if_pos ⟨hok, hlt⟩] at ih; rw [if_pos hlt]; exact ih
        · rw [eh, if_neg (fun q => hlt q.2)] at ih; rw [if_neg hlt]; exact ih
      · rw [if_neg hok] at hW
        rw [eh, if_neg (fun q => hok q.1)] at ih
        have hm : ¬ nI (hoaN R k j) < (-1 : Int32) := fun q => by
          rw [Int32.lt_iff_toInt_lt, nI_toInt (by omega), show ((-1 : Int32)).toInt = -1 from rfl] at q
          omega
        refine PW.iload_n rfl rfl dX5_hoard_14 ?_
        refine PW.iconst (v := nI 1) (by decide) dX5_hoard_15 ?_
        refine PW.aload_n rfl rfl dX5_hoard_16 ?_
        refine PW.gV hS.1 (by decide) rfl hS.2.1 fX5_58 dX5_hoard_17 ?_
        refine PW.gI hS.1 (by have := hS.b; omega) (skR1 hS.b) (hX.2.1) fX5_177 dX5_hoard_20 ?_
        refine PW.ishl1 (by omega) dX5_hoard_23 ?_
        refine PW.icmp_geN 47 (by decide) (by first | omega | (split <;> omega)) (by first | omega | (split <;> omega)) dX5_hoard_24 (fun hc24 => by (exfalso; omega)) (fun hc24 => ?_)
        refine PW.iload_n rfl rfl dX5_hoard_27 ?_
        refine PW.aload_n rfl rfl dX5_hoard_28 ?_
        refine PW.gV hS.1 (by decide) rfl hS.2.1 fX5_58 dX5_hoard_29 ?_
        refine PW.iload_n rfl rfl dX5_hoard_32 ?_
        refine PW.iload_n rfl rfl dX5_hoard_33 ?_
        refine PW.cV (ci := 2) (j := 0) _ hS.1 (by have := hS.b; omega) (skR0 hS.b) kX5_197 (hW) rfl rfl (Nat.le_of_ble_eq_true rfl) rfl ⟨by decide, by decide⟩ ⟨Nat.zero_le _, Nat.zero_le _⟩ dX5_hoard_34 ?_
        refine PW.mmax kX5_201 ⟨by decide, by decide⟩ ⟨Nat.zero_le _, Nat.zero_le _⟩ (Nat.le_of_ble_eq_true rfl) dX5_hoard_37 ?_
        rw [if_neg hm]
        refine PW.istore_n rfl (by decide) dX5_hoard_40 (?_ : PW _ _ _ _ [(0, _), (1, _), (2, _), (3, _)] _ _ _)
        refine PW.iincN rfl (by decide) dX5_hoard_41 (?_ : PW _ _ _ _ [(0, _), (1, _), (2, _), (3, _)] _ _ _)
        refine PW.goto 14 (by decide) dX5_hoard_44 ?_
        exact ih
    · refine PW.iload_n rfl rfl dX5_hoard_14 ?_
      refine PW.iconst (v := nI 1) (by decide) dX5_hoard_15 ?_
      refine PW.aload_n rfl rfl dX5_hoard_16 ?_
      refine PW.gV hS.1 (by decide) rfl hS.2.1 fX5_58 dX5_hoard_17 ?_
      refine PW.gI hS.1 (by have := hS.b; omega) (skR1 hS.b) (hX.2.1) fX5_177 dX5_hoard_20 ?_
      refine PW.ishl1 (by omega) dX5_hoard_23 ?_
      refine PW.icmp_geN 47 (by decide) (by first | omega | (split <;> omega)) (by first | omega | (split <;> omega)) dX5_hoard_24 (fun hc24 => ?_) (fun hc24 => by (exfalso; omega))
      refine PW.iload_n rfl rfl dX5_hoard_47 ?_
      refine PW.iret rfl (Nat.le_refl _) (Nat.le_refl _) dX5_hoard_48 ?_
      exact ⟨rfl, rfl⟩
  · refine Ret.of (by decide) (Nat.le_of_ble_eq_true rfl) fun l G => ?_
    show PW _ _ _ _ [(0, _), (1, _)] _ _ _
    refine PW.aload_n rfl rfl dX5_hoard_0 ?_
    refine PW.iload_n rfl rfl dX5_hoard_1 ?_
    refine PW.cV (ci := 5) (j := 0) _ hS.1 (by decide) rfl kX5_93 (x_isPocket hS hX hD _) rfl rfl (Nat.le_of_ble_eq_true rfl) rfl ⟨by decide, by decide⟩ ⟨Nat.zero_le _, Nat.zero_le _⟩ dX5_hoard_2 ?_
    refine PW.if_neB 10 (by decide) dX5_hoard_5 (fun hc5 => by exact absurd hc5 hk) (fun hc5 => ?_)
    refine PW.iconst (v := -1) (by decide) dX5_hoard_8 ?_
    refine PW.iret rfl (Nat.le_refl _) (Nat.le_refl _) dX5_hoard_9 ?_
    exact ⟨by rw [hoaS, if_neg hk], rfl⟩
set_option maxHeartbeats 4000000 in
theorem m_hoard (hS : St b s sc mem) (hM : MD mem R) (hD : Dat R) (k : Int32) : Rf 5 mX6_hoard [.ref 95, .int k] mem (some (.int (hoaS R k))) mem := by
  have hT := hD.2.1
  have h6 := hD.1
  have hp := pow6 hT
  have hp0 := pow6 h6
  by_cases hk : inR k (R 0 0) = true
  · obtain ⟨k, hk', rfl⟩ := inR_of hk
    have hv : hoaS R (nI k) = nI (hoaN R k (2 ^ R 1 0)) := by rw [hoaS, if_pos hk, cl_nI (by omega)]
    rw [hv]
    have h3 := (hD.2.2.2.1 k hk').2.1
    refine Ret.of (by decide) (Nat.le_of_ble_eq_true rfl) fun l G => ?_
    show PW _ _ _ _ [(0, _), (1, _)] _ _ _
    refine PW.aload_n rfl rfl dX6_hoard_0 ?_
    refine PW.iload_n rfl rfl dX6_hoard_1 ?_
    refine PW.cV (ci := 6) (j := 0) _ hS.1 (by decide) rfl kX6_178 (m_isPocket hS hM hD _) rfl rfl (Nat.le_of_ble_eq_true rfl) rfl ⟨by decide, by decide⟩ ⟨Nat.zero_le _, Nat.zero_le _⟩ dX6_hoard_2 ?_
    refine PW.if_neB 10 (by decide) dX6_hoard_5 (fun hc5 => ?_) (fun hc5 => by (rw [hk] at hc5; cases hc5))
    refine PW.iconst (v := nI 0) (by decide) dX6_hoard_10 ?_
    refine PW.istore_n rfl (by decide) dX6_hoard_11 (?_ : PW _ _ _ _ [(0, _), (1, _), (2, _)] _ _ _)
    refine PW.iconst (v := nI 0) (by decide) dX6_hoard_12 ?_
    refine PW.istore_n rfl (by decide) dX6_hoard_13 (?_ : PW _ _ _ _ [(0, _), (1, _), (2, _), (3, _)] _ _ _)
    skip
    refine PW.up (fun j => [(0, .ref 95), (1, .int (nI k)), (2, .int (nI (hoaN R k j))), (3, .int (nI j))]) (fun _ => mem) (2 ^ R 1 0) (fun c hc ih => ?_) ?_
    · have eh : hoaN R k (c + 1) = if selK R k c = true ∧ hoaN R k c < selW R c (R 1 0) then selW R c (R 1 0) else hoaN R k c := rfl
      have hki := selK_iff hD hk' c
      have hle := hoaN_le hD k c
      have hwl := selW_le hD c (R 1 0) (Nat.le_refl _)
      have hll := selL_le hD k c (R 1 0) (Nat.le_refl _)
      refine PW.iload_n rfl rfl dX6_hoard_14 ?_
      refine PW.iconst (v := nI 1) (by decide) dX6_hoard_15 ?_
      refine PW.aload_n rfl rfl dX6_hoard_16 ?_
      refine PW.gI hS.1 (by decide) rfl (hM.2.1) fX6_86 dX6_hoard_17 ?_
      refine PW.ishl1 (by omega) dX6_hoard_20 ?_
      refine PW.icmp_geN 155 (by decide) (by first | omega | (split <;> omega)) (by first | omega | (split <;> omega)) dX6_hoard_21 (fun hc21 => by (exfalso; omega)) (fun hc21 => ?_)
      refine PW.iconst (v := nI 0) (by decide) dX6_hoard_24 ?_
      refine PW.istore (by decide) dX6_hoard_25 (?_ : PW _ _ _ _ [(0, _), (1, _), (2, _), (3, _), (4, _)] _ _ _)
      refine PW.iconst (v := nI 0) (by decide) dX6_hoard_27 ?_
      refine PW.istore (by decide) dX6_hoard_28 (?_ : PW _ _ _ _ [(0, _), (1, _), (2, _), (3, _), (4, _), (5, _)] _ _ _)
      refine PW.iconst (v := nI 0) (by decide) dX6_hoard_30 ?_
      refine PW.istore (by decide) dX6_hoard_31 (?_ : PW _ _ _ _ [(0, _), (1, _), (2, _), (3, _), (4, _), (5, _), (6, _)] _ _ _)
      skip
      refine PW.up (fun j => [(0, .ref 95), (1, .int (nI k)), (2, .int (nI (hoaN R k c))), (3, .int (nI c)), (4, .int (nI (selL R k c j))), (5, .int (nI (selW R c j))), (6, .int (nI j))]) (fun _ => mem) (R 1 0) (fun j hj ih => ?_) ?_
      · have dj := hD.2.2.2.2.2.2 j hj
        obtain ⟨x1, x2, x3⟩ := hM.2.2.2.2.2 j hj
        have hl := pockN_lt R (R 13 j) (R 0 0)
        have hpb := pockN_bit R (R 13 j) (R 0 0) k
        rw [decide_eq_true hk', Bool.true_and] at hpb
        have ew : selW R c (j + 1) = selW R c j + if c.testBit j then R 15 j else 0 := rfl
        have el : selL R k c (j + 1) = selL R k c j + if c.testBit j then (if (pockN R (R 13 j) (R 0 0)).testBit k then R 14 j else 200) else 0 := by rw [hpb]; rfl
        refine PW.iload rfl dX6_hoard_33 ?_
        refine PW.aload_n rfl rfl dX6_hoard_35 ?_
        refine PW.gI hS.1 (by decide) rfl (hM.2.1) fX6_86 dX6_hoard_36 ?_
        refine PW.icmp_geN 122 (by decide) (by first | omega | (split <;> omega)) (by first | omega | (split <;> omega)) dX6_hoard_39 (fun hc39 => by (exfalso; omega)) (fun hc39 => ?_)
        refine PW.iload_n rfl rfl dX6_hoard_42 ?_
        refine PW.iload rfl dX6_hoard_43 ?_
        refine PW.cS _ kX6_165 (m_has (a := c) (k := j) (by omega) (by omega) mem) rfl rfl (Nat.le_of_ble_eq_true rfl) ⟨by decide, by decide⟩ ⟨Nat.zero_le _, Nat.zero_le _⟩ dX6_hoard_45 ?_
        refine PW.istore (by decide) dX6_hoard_48 (?_ : PW _ _ _ _ [(0, _), (1, _), (2, _), (3, _), (4, _), (5, _), (6, _), (7, _)] _ _ _)
        refine PW.iload rfl dX6_hoard_50 ?_
        refine PW.iload rfl dX6_hoard_52 ?_
        refine PW.if_neB 61 (by decide) dX6_hoard_54 (fun hc54 => ?_) (fun hc54 => ?_)
        · refine PW.aload_n rfl rfl dX6_hoard_61 ?_
          refine PW.aload_n rfl rfl dX6_hoard_62 ?_
          refine PW.gR hS.1 (by decide) rfl fX6_23 dX6_hoard_63 ?_
          refine PW.iload rfl dX6_hoard_66 ?_
          refine PW.aI hS.1 (by decide) rfl (by exact rfl) ⟨by omega, by decide⟩ (x1) dX6_hoard_68 ?_
          refine PW.cV (ci := 6) (j := 0) _ hS.1 (by decide) rfl kX6_190 (m_letting hS hM hD dj.1) rfl rfl (Nat.le_of_ble_eq_true rfl) rfl ⟨by decide, by decide⟩ ⟨Nat.zero_le _, Nat.zero_le _⟩ dX6_hoard_69 ?_
          refine PW.iload_n rfl rfl dX6_hoard_72 ?_
          refine PW.cS _ kX6_165 (m_has (a := pockN R (R 13 j) (R 0 0)) (k := k) (by omega) (by omega) mem) rfl rfl (Nat.le_of_ble_eq_true rfl) ⟨by decide, by decide⟩ ⟨Nat.zero_le _, Nat.zero_le _⟩ dX6_hoard_73 ?_
          refine PW.if_eqB 89 (by decide) dX6_hoard_76 (fun hc76 => ?_) (fun hc76 => ?_)
          · refine PW.sipush (v := nI 200) (by decide) dX6_hoard_89 ?_
            refine PW.iaddN dX6_hoard_92 ?_
            refine PW.istore (by decide) dX6_hoard_93 (?_ : PW _ _ _ _ [(0, _), (1, _), (2, _), (3, _), (4, _), (5, _), (6, _), (7, _)] _ _ _)
            refine PW.iload rfl dX6_hoard_95 ?_
            refine PW.iload rfl dX6_hoard_97 ?_
            refine PW.if_eqB 112 (by decide) dX6_hoard_99 (fun hc99 => ?_) (fun hc99 => ?_)
            · refine PW.iconst (v := nI 0) (by decide) dX6_hoard_112 ?_
              refine PW.iaddN dX6_hoard_113 ?_
              refine PW.istore (by decide) dX6_hoard_114 (?_ : PW _ _ _ _ [(0, _), (1, _), (2, _), (3, _), (4, _), (5, _), (6, _), (7, _)] _ _ _)
              refine PW.iincN rfl (by decide) dX6_hoard_116 (?_ : PW _ _ _ _ [(0, _), (1, _), (2, _), (3, _), (4, _), (5, _), (6, _), (7, _)] _ _ _)
              refine PW.goto 33 (by decide) dX6_hoard_119 ?_
              refine PW.drop _ (fun q h => List.mem_of_mem_take (i := 7) h) ?_
              first | (rw [hc54] at hc99; cases hc99; done) | (rw [ew, el, hc54, hc76] at ih; exact ih) | (rw [ew, el, hc54] at ih; exact ih)
            · refine PW.aload_n rfl rfl dX6_hoard_102 ?_
              refine PW.gR hS.1 (by decide) rfl fX6_29 dX6_hoard_103 ?_
              refine PW.iload rfl dX6_hoard_106 ?_
              refine PW.aI hS.1 (by decide) rfl (by exact rfl) ⟨by omega, by decide⟩ (x3) dX6_hoard_108 ?_
              refine PW.goto 113 (by decide) dX6_hoard_109 ?_
              refine PW.iaddN dX6_hoard_113 ?_
              refine PW.istore (by decide) dX6_hoard_114 (?_ : PW _ _ _ _ [(0, _), (1, _), (2, _), (3, _), (4, _), (5, _), (6, _), (7, _)] _ _ _)
              refine PW.iincN rfl (by decide) dX6_hoard_116 (?_ : PW _ _ _ _ [(0, _), (1, _), (2, _), (3, _), (4, _), (5, _), (6, _), (7, _)] _ _ _)
              refine PW.goto 33 (by decide) dX6_hoard_119 ?_
              refine PW.drop _ (fun q h => List.mem_of_mem_take (i := 7) h) ?_
              first | (rw [hc54] at hc99; cases hc99; done) | (rw [ew, el, hc54, hc76] at ih; exact ih) | (rw [ew, el, hc54] at ih; exact ih)
          · refine PW.aload_n rfl rfl dX6_hoard_79 ?_
            refine PW.gR hS.1 (by decide) rfl fX6_26 dX6_hoard_80 ?_
            refine PW.iload rfl dX6_hoard_83 ?_
            refine PW.aI hS.1 (by decide) rfl (by exact rfl) ⟨by omega, by decide⟩ (x2) dX6_hoard_85 ?_
            refine PW.goto 92 (by decide) dX6_hoard_86 ?_
            refine PW.iaddN dX6_hoard_92 ?_
            refine PW.istore (by decide) dX6_hoard_93 (?_ : PW _ _ _ _ [(0, _), (1, _), (2, _), (3, _), (4, _), (5, _), (6, _), (7, _)] _ _ _)
            refine PW.iload rfl dX6_hoard_95 ?_
            refine PW.iload rfl dX6_hoard_97 ?_
            refine PW.if_eqB 112 (by decide) dX6_hoard_99 (fun hc99 => ?_) (fun hc99 => ?_)
            · refine PW.iconst (v := nI 0) (by decide) dX6_hoard_112 ?_
              refine PW.iaddN dX6_hoard_113 ?_
              refine PW.istore (by decide) dX6_hoard_114 (?_ : PW _ _ _ _ [(0, _), (1, _), (2, _), (3, _), (4, _), (5, _), (6, _), (7, _)] _ _ _)
              refine PW.iincN rfl (by decide) dX6_hoard_116 (?_ : PW _ _ _ _ [(0, _), (1, _), (2, _), (3, _), (4, _), (5, _), (6, _), (7, _)] _ _ _)
              refine PW.goto 33 (by decide) dX6_hoard_119 ?_
              refine PW.drop _ (fun q h => List.mem_of_mem_take (i := 7) h) ?_
              first | (rw [hc54] at hc99; cases hc99; done) | (rw [ew, el, hc54, hc76] at ih; exact ih) | (rw [ew, el, hc54] at ih; exact ih)
            · refine PW.aload_n rfl rfl dX6_hoard_102 ?_
              refine PW.gR hS.1 (by decide) rfl fX6_29 dX6_hoard_103 ?_
              refine PW.iload rfl dX6_hoard_106 ?_
              refine PW.aI hS.1 (by decide) rfl (by exact rfl) ⟨by omega, by decide⟩ (x3) dX6_hoard_108 ?_
              refine PW.goto 113 (by decide) dX6_hoard_109 ?_
              refine PW.iaddN dX6_hoard_113 ?_
              refine PW.istore (by decide) dX6_hoard_114 (?_ : PW _ _ _ _ [(0, _), (1, _), (2, _), (3, _), (4, _), (5, _), (6, _), (7, _)] _ _ _)
              refine PW.iincN rfl (by decide) dX6_hoard_116 (?_ : PW _ _ _ _ [(0, _), (1, _), (2, _), (3, _), (4, _), (5, _), (6, _), (7, _)] _ _ _)
              refine PW.goto 33 (by decide) dX6_hoard_119 ?_
              refine PW.drop _ (fun q h => List.mem_of_mem_take (i := 7) h) ?_
              first | (rw [hc54] at hc99; cases hc99; done) | (rw [ew, el, hc54, hc76] at ih; exact ih) | (rw [ew, el, hc54] at ih; exact ih)
        · refine PW.iconst (v := nI 0) (by decide) dX6_hoard_57 ?_
          refine PW.goto 92 (by decide) dX6_hoard_58 ?_
          refine PW.iaddN dX6_hoard_92 ?_
          refine PW.istore (by decide) dX6_hoard_93 (?_ : PW _ _ _ _ [(0, _), (1, _), (2, _), (3, _), (4, _), (5, _), (6, _), (7, _)] _ _ _)
          refine PW.iload rfl dX6_hoard_95 ?_
          refine PW.iload rfl dX6_hoard_97 ?_
          refine PW.if_eqB 112 (by decide) dX6_hoard_99 (fun hc99 => ?_) (fun hc99 => ?_)
          · refine PW.iconst (v := nI 0) (by decide) dX6_hoard_112 ?_
            refine PW.iaddN dX6_hoard_113 ?_
            refine PW.istore (by decide) dX6_hoard_114 (?_ : PW _ _ _ _ [(0, _), (1, _), (2, _), (3, _), (4, _), (5, _), (6, _), (7, _)] _ _ _)
            refine PW.iincN rfl (by decide) dX6_hoard_116 (?_ : PW _ _ _ _ [(0, _), (1, _), (2, _), (3, _), (4, _), (5, _), (6, _), (7, _)] _ _ _)
            refine PW.goto 33 (by decide) dX6_hoard_119 ?_
            refine PW.drop _ (fun q h => List.mem_of_mem_take (i := 7) h) ?_
            first | (rw [hc54] at hc99; cases hc99; done) | (rw [ew, el, hc54, hc76] at ih; exact ih) | (rw [ew, el, hc54] at ih; exact ih)
          · refine PW.aload_n rfl rfl dX6_hoard_102 ?_
            refine PW.gR hS.1 (by decide) rfl fX6_29 dX6_hoard_103 ?_
            refine PW.iload rfl dX6_hoard_106 ?_
            refine PW.aI hS.1 (by decide) rfl (by exact rfl) ⟨by omega, by decide⟩ (x3) dX6_hoard_108 ?_
            refine PW.goto 113 (by decide) dX6_hoard_109 ?_
            refine PW.iaddN dX6_hoard_113 ?_
            refine PW.istore (by decide) dX6_hoard_114 (?_ : PW _ _ _ _ [(0, _), (1, _), (2, _), (3, _), (4, _), (5, _), (6, _), (7, _)] _ _ _)
            refine PW.iincN rfl (by decide) dX6_hoard_116 (?_ : PW _ _ _ _ [(0, _), (1, _), (2, _), (3, _), (4, _), (5, _), (6, _), (7, _)] _ _ _)
            refine PW.goto 33 (by decide) dX6_hoard_119 ?_
            refine PW.drop _ (fun q h => List.mem_of_mem_take (i := 7) h) ?_
            first | (rw [hc54] at hc99; cases hc99; done) | (rw [ew, el, hc54, hc76] at ih; exact ih) | (rw [ew, el, hc54] at ih; exact ih)
      · refine PW.iload rfl dX6_hoard_33 ?_
        refine PW.aload_n rfl rfl dX6_hoard_35 ?_
        refine PW.gI hS.1 (by decide) rfl (hM.2.1) fX6_86 dX6_hoard_36 ?_
        refine PW.icmp_geN 122 (by decide) (by first | omega | (split <;> omega)) (by first | omega | (split <;> omega)) dX6_hoard_39 (fun hc39 => ?_) (fun hc39 => by (exfalso; omega))
        refine PW.iload rfl dX6_hoard_122 ?_
        refine PW.aload_n rfl rfl dX6_hoard_124 ?_
        refine PW.gR hS.1 (by decide) rfl fX6_13 dX6_hoard_125 ?_
        refine PW.bipush (v := nI 8) (by decide) dX6_hoard_128 ?_
        refine PW.iload_n rfl rfl dX6_hoard_130 ?_
        refine PW.imulN dX6_hoard_131 ?_
        refine PW.aI hS.1 (by decide) rfl (by exact rfl) ⟨by omega, by decide⟩ ((hM.2.2.2.1 k hk').1) dX6_hoard_132 ?_
        refine PW.icmp_gtN 147 (by decide) (by first | omega | (split <;> omega)) (by first | omega | (split <;> omega)) dX6_hoard_133 (fun hc133 => ?_) (fun hc133 => ?_)
        · refine PW.iload_n rfl rfl dX6_hoard_147 ?_
          refine PW.istore_n rfl (by decide) dX6_hoard_148 (?_ : PW _ _ _ _ [(0, _), (1, _), (2, _), (3, _), (4, _), (5, _), (6, _)] _ _ _)
          refine PW.iincN rfl (by decide) dX6_hoard_149 (?_ : PW _ _ _ _ [(0, _), (1, _), (2, _), (3, _), (4, _), (5, _), (6, _)] _ _ _)
          refine PW.goto 14 (by decide) dX6_hoard_152 ?_
          refine PW.drop _ (fun q h => List.mem_of_mem_take (i := 4) h) ?_
          first | (rw [eh, if_neg (fun q => absurd (hki.mp q.1) (by omega))] at ih; exact ih) | (rw [eh, if_neg (fun q => absurd q.2 (by omega))] at ih; exact ih) | (rw [eh, if_pos ⟨hki.mpr (by omega), by omega⟩] at ih; exact ih)
        · refine PW.iload rfl dX6_hoard_136 ?_
          refine PW.iload_n rfl rfl dX6_hoard_138 ?_
          refine PW.icmp_leN 147 (by decide) (by first | omega | (split <;> omega)) (by first | omega | (split <;> omega)) dX6_hoard_139 (fun hc139 => ?_) (fun hc139 => ?_)
          · refine PW.iload_n rfl rfl dX6_hoard_147 ?_
            refine PW.istore_n rfl (by decide) dX6_hoard_148 (?_ : PW _ _ _ _ [(0, _), (1, _), (2, _), (3, _), (4, _), (5, _), (6, _)] _ _ _)
            refine PW.iincN rfl (by decide) dX6_hoard_149 (?_ : PW _ _ _ _ [(0, _), (1, _), (2, _), (3, _), (4, _), (5, _), (6, _)] _ _ _)
            refine PW.goto 14 (by decide) dX6_hoard_152 ?_
            refine PW.drop _ (fun q h => List.mem_of_mem_take (i := 4) h) ?_
            first | (rw [eh, if_neg (fun q => absurd (hki.mp q.1) (by omega))] at ih; exact ih) | (rw [eh, if_neg (fun q => absurd q.2 (by omega))] at ih; exact ih) | (rw [eh, if_pos ⟨hki.mpr (by omega), by omega⟩] at ih; exact ih)
          · refine PW.iload rfl dX6_hoard_142 ?_
            refine PW.goto 148 (by decide) dX6_hoard_144 ?_
            refine PW.istore_n rfl (by decide) dX6_hoard_148 (?_ : PW _ _ _ _ [(0, _), (1, _), (2, _), (3, _), (4, _), (5, _), (6, _)] _ _ _)
            refine PW.iincN rfl (by decide) dX6_hoard_149 (?_ : PW _ _ _ _ [(0, _), (1, _), (2, _), (3, _), (4, _), (5, _), (6, _)] _ _ _)
            refine PW.goto 14 (by decide) dX6_hoard_152 ?_
            refine PW.drop _ (fun q h => List.mem_of_mem_take (i := 4) h) ?_
            first | (rw [eh, if_neg (fun q => absurd (hki.mp q.1) (by omega))] at ih; exact ih) | (rw [eh, if_neg (fun q => absurd q.2 (by omega))] at ih; exact ih) | (rw [eh, if_pos ⟨hki.mpr (by omega), by omega⟩] at ih; exact ih)
    · refine PW.iload_n rfl rfl dX6_hoard_14 ?_
      refine PW.iconst (v := nI 1) (by decide) dX6_hoard_15 ?_
      refine PW.aload_n rfl rfl dX6_hoard_16 ?_
      refine PW.gI hS.1 (by decide) rfl (hM.2.1) fX6_86 dX6_hoard_17 ?_
      refine PW.ishl1 (by omega) dX6_hoard_20 ?_
      refine PW.icmp_geN 155 (by decide) (by first | omega | (split <;> omega)) (by first | omega | (split <;> omega)) dX6_hoard_21 (fun hc21 => ?_) (fun hc21 => by (exfalso; omega))
      refine PW.iload_n rfl rfl dX6_hoard_155 ?_
      refine PW.iret rfl (Nat.le_refl _) (Nat.le_refl _) dX6_hoard_156 ?_
      exact ⟨rfl, rfl⟩
  · refine Ret.of (by decide) (Nat.le_of_ble_eq_true rfl) fun l G => ?_
    show PW _ _ _ _ [(0, _), (1, _)] _ _ _
    refine PW.aload_n rfl rfl dX6_hoard_0 ?_
    refine PW.iload_n rfl rfl dX6_hoard_1 ?_
    refine PW.cV (ci := 6) (j := 0) _ hS.1 (by decide) rfl kX6_178 (m_isPocket hS hM hD _) rfl rfl (Nat.le_of_ble_eq_true rfl) rfl ⟨by decide, by decide⟩ ⟨Nat.zero_le _, Nat.zero_le _⟩ dX6_hoard_2 ?_
    refine PW.if_neB 10 (by decide) dX6_hoard_5 (fun hc5 => by exact absurd hc5 hk) (fun hc5 => ?_)
    refine PW.iconst (v := -1) (by decide) dX6_hoard_8 ?_
    refine PW.iret rfl (Nat.le_refl _) (Nat.le_refl _) dX6_hoard_9 ?_
    exact ⟨by rw [hoaS, if_neg hk], rfl⟩
end HOARD
