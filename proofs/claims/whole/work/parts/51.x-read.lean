/-! ===== the class reads: rows of roles, room, what a number may be ===== -/
section RDR
variable {l : Launch} {G : pw_G} {Y : pw_Y} {R : Room} {mc ms k n pc : Nat} {ls : List (Nat × Value)} {st : List Value} {mem : pw_M} {Q : Option Value → pw_M → Prop}
theorem PW.rd {r N j : Nat} {g : Nat → Int32} {i x : Int32} (hm : mem[r]? = some (.inl (0, N, .inl g))) (hi : i = nI j) (hj : j < N ∧ N < 1000) (hv : g j = x) (d : decode Y.2.1 pc = .ok (.iaload, 1)) (kk : PW (l, G, Y, R, mc, ms) k n (pc + 1) ls (.int x :: st) mem Q) : PW (l, G, Y, R, mc, ms) k n pc ls (.int i :: .ref r :: st) mem Q := by
  subst hi
  have hc : (nI j).toNatClampNeg = j := nI_clamp (by omega)
  refine PW.iald hm (vp_in_nI hj.1 (by omega)) d ?_
  rw [hc, hv]
  exact kk
end RDR
def frw (c : Nat) : Nat := if c = 107 then 0 else if c = 97 then 1 else if c = 110 then 1 else if c = 115 then 1 else if c = 104 then 2 else if c = 121 then 3 else if c = 116 then 4 else 5
theorem frm_no {c : Nat} (h : frm c = []) : c ≠ 107 ∧ c ≠ 97 ∧ c ≠ 110 ∧ c ≠ 115 ∧ c ≠ 104 ∧ c ≠ 121 ∧ c ≠ 116 := by
  refine ⟨?_, ?_, ?_, ?_, ?_, ?_, ?_⟩ <;> (intro e; subst e; cases h)
theorem row_key0 : ∀ i, i < 25 → (i = 10 ∨ i = 0 ∨ i = 13 ∨ i = 18 ∨ i = 7 ∨ i = 24 ∨ i = 19) ∨ (#[119, 143, 143, 143, 143, 143, 143, 131, 143, 143, 115, 143, 143, 123, 143, 143, 143, 143, 127, 139, 143, 143, 143, 143, 135] : Array Int)[i]? = some 143 := by decide
theorem row_key {c : Nat} (h1 : c < 122) (h2 : 97 ≤ c) (h107 : c ≠ 107) (h97 : c ≠ 97) (h110 : c ≠ 110) (h115 : c ≠ 115) (h104 : c ≠ 104) (h121 : c ≠ 121) (h116 : c ≠ 116) : (#[119, 143, 143, 143, 143, 143, 143, 131, 143, 143, 115, 143, 143, 123, 143, 143, 143, 143, 127, 139, 143, 143, 143, 143, 135] : Array Int)[c - 97]? = some 143 :=
  (row_key0 (c - 97) (by omega)).resolve_left (by omega)
section XRD
variable {b s : Nat} {sc : pw_E} {mem : pw_M} {R : DR} {e : Nat} {sd : Nat → Nat}
set_option maxHeartbeats 4000000 in
theorem x_formOf {c : Nat} (hc : c ≤ 258) (mem : pw_M) : Rf 0 mX4_formOf [.int (nI c)] mem (some (.ref (frw c))) mem := by
  by_cases h107 : c = 107
  · subst h107
    refine Ret.of (by decide) (Nat.le_of_ble_eq_true rfl) fun l G => ?_
    show PW _ _ _ _ [(0, _)] _ _ _
    refine PW.iload_n rfl rfl dX4_formOf_0 ?_
    refine PW.tableIn (off := 115) 116 (by decide) (by decide) (by decide) (by decide) dX4_formOf_1 ?_
    refine PW.gets (q := 0) (by decide) sX4_62 dX4_formOf_116 ?_
    refine PW.aret rfl (Or.inr ⟨_, rfl⟩) (Nat.le_refl _) (Nat.le_refl _) dX4_formOf_119 ?_
    exact ⟨rfl, rfl⟩
  by_cases h97 : c = 97
  · subst h97
    refine Ret.of (by decide) (Nat.le_of_ble_eq_true rfl) fun l G => ?_
    show PW _ _ _ _ [(0, _)] _ _ _
    refine PW.iload_n rfl rfl dX4_formOf_0 ?_
    refine PW.tableIn (off := 119) 120 (by decide) (by decide) (by decide) (by decide) dX4_formOf_1 ?_
    refine PW.gets (q := 1) (by decide) sX4_65 dX4_formOf_120 ?_
    refine PW.aret rfl (Or.inr ⟨_, rfl⟩) (Nat.le_refl _) (Nat.le_refl _) dX4_formOf_123 ?_
    exact ⟨rfl, rfl⟩
  by_cases h110 : c = 110
  · subst h110
    refine Ret.of (by decide) (Nat.le_of_ble_eq_true rfl) fun l G => ?_
    show PW _ _ _ _ [(0, _)] _ _ _
    refine PW.iload_n rfl rfl dX4_formOf_0 ?_
    refine PW.tableIn (off := 123) 124 (by decide) (by decide) (by decide) (by decide) dX4_formOf_1 ?_
    refine PW.gets (q := 1) (by decide) sX4_65 dX4_formOf_124 ?_
    refine PW.aret rfl (Or.inr ⟨_, rfl⟩) (Nat.le_refl _) (Nat.le_refl _) dX4_formOf_127 ?_
    exact ⟨rfl, rfl⟩
  by_cases h115 : c = 115
  · subst h115
    refine Ret.of (by decide) (Nat.le_of_ble_eq_true rfl) fun l G => ?_
    show PW _ _ _ _ [(0, _)] _ _ _
    refine PW.iload_n rfl rfl dX4_formOf_0 ?_
    refine PW.tableIn (off := 127) 128 (by decide) (by decide) (by decide) (by decide) dX4_formOf_1 ?_
    refine PW.gets (q := 1) (by decide) sX4_65 dX4_formOf_128 ?_
    refine PW.aret rfl (Or.inr ⟨_, rfl⟩) (Nat.le_refl _) (Nat.le_refl _) dX4_formOf_131 ?_
    exact ⟨rfl, rfl⟩
  by_cases h104 : c = 104
  · subst h104
    refine Ret.of (by decide) (Nat.le_of_ble_eq_true rfl) fun l G => ?_
    show PW _ _ _ _ [(0, _)] _ _ _
    refine PW.iload_n rfl rfl dX4_formOf_0 ?_
    refine PW.tableIn (off := 131) 132 (by decide) (by decide) (by decide) (by decide) dX4_formOf_1 ?_
    refine PW.gets (q := 2) (by decide) sX4_68 dX4_formOf_132 ?_
    refine PW.aret rfl (Or.inr ⟨_, rfl⟩) (Nat.le_refl _) (Nat.le_refl _) dX4_formOf_135 ?_
    exact ⟨rfl, rfl⟩
  by_cases h121 : c = 121
  · subst h121
    refine Ret.of (by decide) (Nat.le_of_ble_eq_true rfl) fun l G => ?_
    show PW _ _ _ _ [(0, _)] _ _ _
    refine PW.iload_n rfl rfl dX4_formOf_0 ?_
    refine PW.tableIn (off := 135) 136 (by decide) (by decide) (by decide) (by decide) dX4_formOf_1 ?_
    refine PW.gets (q := 3) (by decide) sX4_71 dX4_formOf_136 ?_
    refine PW.aret rfl (Or.inr ⟨_, rfl⟩) (Nat.le_refl _) (Nat.le_refl _) dX4_formOf_139 ?_
    exact ⟨rfl, rfl⟩
  by_cases h116 : c = 116
  · subst h116
    refine Ret.of (by decide) (Nat.le_of_ble_eq_true rfl) fun l G => ?_
    show PW _ _ _ _ [(0, _)] _ _ _
    refine PW.iload_n rfl rfl dX4_formOf_0 ?_
    refine PW.tableIn (off := 139) 140 (by decide) (by decide) (by decide) (by decide) dX4_formOf_1 ?_
    refine PW.gets (q := 4) (by decide) sX4_74 dX4_formOf_140 ?_
    refine PW.aret rfl (Or.inr ⟨_, rfl⟩) (Nat.le_refl _) (Nat.le_refl _) dX4_formOf_143 ?_
    exact ⟨rfl, rfl⟩
  have e5 : frw c = 5 := by
    unfold frw
    rw [if_neg h107, if_neg h97, if_neg h110, if_neg h115, if_neg h104, if_neg h121, if_neg h116]
  rw [e5]
  have ht := nI_toInt (n := c) (by omega)
  by_cases hin : 97 ≤ c ∧ c ≤ 121
  · have hs1 : ¬ (nI c).toInt < 97 := by rw [ht]; omega
    have hs2 : ¬ 121 < (nI c).toInt := by rw [ht]; omega
    have hs3 : (#[119, 143, 143, 143, 143, 143, 143, 131, 143, 143, 115, 143, 143, 123, 143, 143, 143, 143, 127, 139, 143, 143, 143, 143, 135] : Array Int)[((nI c).toInt - 97).toNat]? = some 143 := by
      rw [ht, show ((c : Int) - 97).toNat = c - 97 by omega]
      exact row_key (by omega) hin.1 h107 h97 h110 h115 h104 h121 h116
    refine Ret.of (by decide) (Nat.le_of_ble_eq_true rfl) fun l G => ?_
    show PW _ _ _ _ [(0, _)] _ _ _
    refine PW.iload_n rfl rfl dX4_formOf_0 ?_
    refine PW.tableIn (off := 143) 144 hs1 hs2 hs3 (by decide) dX4_formOf_1 ?_
    refine PW.gets (q := 5) (by decide) sX4_77 dX4_formOf_144 ?_
    refine PW.aret rfl (Or.inr ⟨_, rfl⟩) (Nat.le_refl _) (Nat.le_refl _) dX4_formOf_147 ?_
    exact ⟨rfl, rfl⟩
  · have hsw : (nI c).toInt < 97 ∨ 121 < (nI c).toInt := by rw [ht]; omega
    refine Ret.of (by decide) (Nat.le_of_ble_eq_true rfl) fun l G => ?_
    show PW _ _ _ _ [(0, _)] _ _ _
    refine PW.iload_n rfl rfl dX4_formOf_0 ?_
    refine PW.tableOut 144 hsw (by decide) dX4_formOf_1 ?_
    refine PW.gets (q := 5) (by decide) sX4_77 dX4_formOf_144 ?_
    refine PW.aret rfl (Or.inr ⟨_, rfl⟩) (Nat.le_refl _) (Nat.le_refl _) dX4_formOf_147 ?_
    exact ⟨rfl, rfl⟩
set_option maxHeartbeats 4000000 in
theorem x_hasRoomFor (hS : St b s sc mem) (he : e = 49 ∨ e = 72) (hX : XD mem e R) (hD : Dat R) {c : Nat} (hf : frm c ≠ []) : Rf 0 mX2_hasRoomFor [.ref e, .int (nI c)] mem (some (.int (bI (rom c R)))) mem := by
  have h1 := hD.1
  have h2 := hD.2.1
  have h3 := hD.2.2.1
  rcases frm_cases hf with rfl | rfl | rfl | rfl | rfl | rfl | rfl
  · have t1 : R 0 0 < 6 → rom 107 R = true := fun h => decide_eq_true h
    have t2 : ¬ R 0 0 < 6 → rom 107 R = false := fun h => decide_eq_false h
    refine Ret.of (by decide) (Nat.le_of_ble_eq_true rfl) fun l G => ?_
    show PW _ _ _ _ [(0, _), (1, _)] _ _ _
    refine PW.iload_n rfl rfl dX2_hasRoomFor_0 ?_
    refine PW.lookup 36 (by decide) rfl (by decide) dX2_hasRoomFor_1 ?_
    refine PW.aload_n rfl rfl dX2_hasRoomFor_36 ?_
    refine PW.gI hS.1 (by have := he; omega) (skR0 he) (hX.1) fX2_62 dX2_hasRoomFor_37 ?_
    refine PW.bipush (v := nI 6) (by decide) dX2_hasRoomFor_40 ?_
    refine PW.icmp_geN 49 (by decide) (by first | omega | (split <;> omega)) (by first | omega | (split <;> omega)) dX2_hasRoomFor_42 (fun hc42 => ?_) (fun hc42 => ?_)
    · refine PW.iconst (v := nI 0) (by decide) dX2_hasRoomFor_49 ?_
      refine PW.zret rfl (by first | exact bI_nar _ | rfl) (Nat.le_refl _) (Nat.le_refl _) dX2_hasRoomFor_50 ?_
      first | exact ⟨by rw [t1 (by omega)]; rfl, rfl⟩ | exact ⟨by rw [t2 (by omega)]; rfl, rfl⟩
    · refine PW.iconst (v := nI 1) (by decide) dX2_hasRoomFor_45 ?_
      refine PW.goto 50 (by decide) dX2_hasRoomFor_46 ?_
      refine PW.zret rfl (by first | exact bI_nar _ | rfl) (Nat.le_refl _) (Nat.le_refl _) dX2_hasRoomFor_50 ?_
      first | exact ⟨by rw [t1 (by omega)]; rfl, rfl⟩ | exact ⟨by rw [t2 (by omega)]; rfl, rfl⟩
  · refine Ret.of (by decide) (Nat.le_of_ble_eq_true rfl) fun l G => ?_
    show PW _ _ _ _ [(0, _), (1, _)] _ _ _
    refine PW.iload_n rfl rfl dX2_hasRoomFor_0 ?_
    refine PW.lookup 81 (by decide) rfl (by decide) dX2_hasRoomFor_1 ?_
    refine PW.iconst (v := nI 1) (by decide) dX2_hasRoomFor_81 ?_
    refine PW.zret rfl (by first | exact bI_nar _ | rfl) (Nat.le_refl _) (Nat.le_refl _) dX2_hasRoomFor_82 ?_
    exact ⟨rfl, rfl⟩
  · refine Ret.of (by decide) (Nat.le_of_ble_eq_true rfl) fun l G => ?_
    show PW _ _ _ _ [(0, _), (1, _)] _ _ _
    refine PW.iload_n rfl rfl dX2_hasRoomFor_0 ?_
    refine PW.lookup 81 (by decide) rfl (by decide) dX2_hasRoomFor_1 ?_
    refine PW.iconst (v := nI 1) (by decide) dX2_hasRoomFor_81 ?_
    refine PW.zret rfl (by first | exact bI_nar _ | rfl) (Nat.le_refl _) (Nat.le_refl _) dX2_hasRoomFor_82 ?_
    exact ⟨rfl, rfl⟩
  · refine Ret.of (by decide) (Nat.le_of_ble_eq_true rfl) fun l G => ?_
    show PW _ _ _ _ [(0, _), (1, _)] _ _ _
    refine PW.iload_n rfl rfl dX2_hasRoomFor_0 ?_
    refine PW.lookup 81 (by decide) rfl (by decide) dX2_hasRoomFor_1 ?_
    refine PW.iconst (v := nI 1) (by decide) dX2_hasRoomFor_81 ?_
    refine PW.zret rfl (by first | exact bI_nar _ | rfl) (Nat.le_refl _) (Nat.le_refl _) dX2_hasRoomFor_82 ?_
    exact ⟨rfl, rfl⟩
  · refine Ret.of (by decide) (Nat.le_of_ble_eq_true rfl) fun l G => ?_
    show PW _ _ _ _ [(0, _), (1, _)] _ _ _
    refine PW.iload_n rfl rfl dX2_hasRoomFor_0 ?_
    refine PW.lookup 81 (by decide) rfl (by decide) dX2_hasRoomFor_1 ?_
    refine PW.iconst (v := nI 1) (by decide) dX2_hasRoomFor_81 ?_
    refine PW.zret rfl (by first | exact bI_nar _ | rfl) (Nat.le_refl _) (Nat.le_refl _) dX2_hasRoomFor_82 ?_
    exact ⟨rfl, rfl⟩
  · have t1 : R 2 0 < 12 → rom 121 R = true := fun h => decide_eq_true h
    have t2 : ¬ R 2 0 < 12 → rom 121 R = false := fun h => decide_eq_false h
    refine Ret.of (by decide) (Nat.le_of_ble_eq_true rfl) fun l G => ?_
    show PW _ _ _ _ [(0, _), (1, _)] _ _ _
    refine PW.iload_n rfl rfl dX2_hasRoomFor_0 ?_
    refine PW.lookup 66 (by decide) rfl (by decide) dX2_hasRoomFor_1 ?_
    refine PW.aload_n rfl rfl dX2_hasRoomFor_66 ?_
    refine PW.gI hS.1 (by have := he; omega) (skR2 he) (hX.2.2.1) fX2_69 dX2_hasRoomFor_67 ?_
    refine PW.bipush (v := nI 12) (by decide) dX2_hasRoomFor_70 ?_
    refine PW.icmp_geN 79 (by decide) (by first | omega | (split <;> omega)) (by first | omega | (split <;> omega)) dX2_hasRoomFor_72 (fun hc72 => ?_) (fun hc72 => ?_)
    · refine PW.iconst (v := nI 0) (by decide) dX2_hasRoomFor_79 ?_
      refine PW.zret rfl (by first | exact bI_nar _ | rfl) (Nat.le_refl _) (Nat.le_refl _) dX2_hasRoomFor_80 ?_
      first | exact ⟨by rw [t1 (by omega)]; rfl, rfl⟩ | exact ⟨by rw [t2 (by omega)]; rfl, rfl⟩
    · refine PW.iconst (v := nI 1) (by decide) dX2_hasRoomFor_75 ?_
      refine PW.goto 80 (by decide) dX2_hasRoomFor_76 ?_
      refine PW.zret rfl (by first | exact bI_nar _ | rfl) (Nat.le_refl _) (Nat.le_refl _) dX2_hasRoomFor_80 ?_
      first | exact ⟨by rw [t1 (by omega)]; rfl, rfl⟩ | exact ⟨by rw [t2 (by omega)]; rfl, rfl⟩
  · have t1 : R 1 0 < 6 → rom 116 R = true := fun h => decide_eq_true h
    have t2 : ¬ R 1 0 < 6 → rom 116 R = false := fun h => decide_eq_false h
    refine Ret.of (by decide) (Nat.le_of_ble_eq_true rfl) fun l G => ?_
    show PW _ _ _ _ [(0, _), (1, _)] _ _ _
    refine PW.iload_n rfl rfl dX2_hasRoomFor_0 ?_
    refine PW.lookup 51 (by decide) rfl (by decide) dX2_hasRoomFor_1 ?_
    refine PW.aload_n rfl rfl dX2_hasRoomFor_51 ?_
    refine PW.gI hS.1 (by have := he; omega) (skR1 he) (hX.2.1) fX2_66 dX2_hasRoomFor_52 ?_
    refine PW.bipush (v := nI 6) (by decide) dX2_hasRoomFor_55 ?_
    refine PW.icmp_geN 64 (by decide) (by first | omega | (split <;> omega)) (by first | omega | (split <;> omega)) dX2_hasRoomFor_57 (fun hc57 => ?_) (fun hc57 => ?_)
    · refine PW.iconst (v := nI 0) (by decide) dX2_hasRoomFor_64 ?_
      refine PW.zret rfl (by first | exact bI_nar _ | rfl) (Nat.le_refl _) (Nat.le_refl _) dX2_hasRoomFor_65 ?_
      first | exact ⟨by rw [t1 (by omega)]; rfl, rfl⟩ | exact ⟨by rw [t2 (by omega)]; rfl, rfl⟩
    · refine PW.iconst (v := nI 1) (by decide) dX2_hasRoomFor_60 ?_
      refine PW.goto 65 (by decide) dX2_hasRoomFor_61 ?_
      refine PW.zret rfl (by first | exact bI_nar _ | rfl) (Nat.le_refl _) (Nat.le_refl _) dX2_hasRoomFor_65 ?_
      first | exact ⟨by rw [t1 (by omega)]; rfl, rfl⟩ | exact ⟨by rw [t2 (by omega)]; rfl, rfl⟩
theorem lo_row : ∀ r, r < 5 → ro [1, 0, 0, 0, 1] r = nI (loN r) := by decide
theorem hi_row : ∀ r, r < 5 → ro [20, 63, 9, 5, 5] r = nI (hiN r) := by decide
theorem lo_le : ∀ r, r < 5 → loN r < 100 ∧ hiN r < 100 := by decide
set_option maxHeartbeats 4000000 in
theorem x_mayBe (hS : St b s sc mem) {P r s0 v : Nat} (hr : r < 8) (hP : P ≤ 6) (hv : v < 100) (hs0 : s0 < 100) (h6 : fi mem 10 6 = nI v) (h0 : r = 7 → iv mem 12 0 = nI s0) : Rf 1 mX4_mayBe [.ref 10, .int (nI r), .int (nI P)] mem (some (.int (bI (mbB P r s0 v)))) mem := by
  by_cases h5 : r = 5
  · subst h5
    have t1 : (v < P ∨ v = 9) → mbB P 5 s0 v = true := fun h => decide_eq_true h
    have t2 : ¬ (v < P ∨ v = 9) → mbB P 5 s0 v = false := fun h => decide_eq_false h
    refine Ret.of (by decide) (Nat.le_of_ble_eq_true rfl) fun l G => ?_
    show PW _ _ _ _ [(0, _), (1, _), (2, _)] _ _ _
    refine PW.iload_n rfl rfl dX4_mayBe_0 ?_
    refine PW.tableIn (off := 27) 28 (by decide) (by decide) (by decide) (by decide) dX4_mayBe_1 ?_
    refine PW.aload_n rfl rfl dX4_mayBe_28 ?_
    refine PW.gI hS.1 (by decide) rfl (h6) fX4_55 dX4_mayBe_29 ?_
    refine PW.iload_n rfl rfl dX4_mayBe_32 ?_
    refine PW.icmp_ltN 45 (by decide) (by first | omega | (split <;> omega)) (by first | omega | (split <;> omega)) dX4_mayBe_33 (fun hc33 => ?_) (fun hc33 => ?_)
    · refine PW.iconst (v := nI 1) (by decide) dX4_mayBe_45 ?_
      refine PW.goto 50 (by decide) dX4_mayBe_46 ?_
      refine PW.zret rfl (by first | exact bI_nar _ | rfl) (Nat.le_refl _) (Nat.le_refl _) dX4_mayBe_50 ?_
      first | exact ⟨by rw [t1 (by omega)]; rfl, rfl⟩ | exact ⟨by rw [t2 (by omega)]; rfl, rfl⟩
    · refine PW.aload_n rfl rfl dX4_mayBe_36 ?_
      refine PW.gI hS.1 (by decide) rfl (h6) fX4_55 dX4_mayBe_37 ?_
      refine PW.bipush (v := nI 9) (by decide) dX4_mayBe_40 ?_
      refine PW.icmp_neN 49 (by decide) (by first | omega | (split <;> omega)) (by first | omega | (split <;> omega)) dX4_mayBe_42 (fun hc42 => ?_) (fun hc42 => ?_)
      · refine PW.iconst (v := nI 0) (by decide) dX4_mayBe_49 ?_
        refine PW.zret rfl (by first | exact bI_nar _ | rfl) (Nat.le_refl _) (Nat.le_refl _) dX4_mayBe_50 ?_
        first | exact ⟨by rw [t1 (by omega)]; rfl, rfl⟩ | exact ⟨by rw [t2 (by omega)]; rfl, rfl⟩
      · refine PW.iconst (v := nI 1) (by decide) dX4_mayBe_45 ?_
        refine PW.goto 50 (by decide) dX4_mayBe_46 ?_
        refine PW.zret rfl (by first | exact bI_nar _ | rfl) (Nat.le_refl _) (Nat.le_refl _) dX4_mayBe_50 ?_
        first | exact ⟨by rw [t1 (by omega)]; rfl, rfl⟩ | exact ⟨by rw [t2 (by omega)]; rfl, rfl⟩
  by_cases h5 : r = 6
  · subst h5
    have t1 : v < P → mbB P 6 s0 v = true := fun h => decide_eq_true h
    have t2 : ¬ v < P → mbB P 6 s0 v = false := fun h => decide_eq_false h
    refine Ret.of (by decide) (Nat.le_of_ble_eq_true rfl) fun l G => ?_
    show PW _ _ _ _ [(0, _), (1, _), (2, _)] _ _ _
    refine PW.iload_n rfl rfl dX4_mayBe_0 ?_
    refine PW.tableIn (off := 50) 51 (by decide) (by decide) (by decide) (by decide) dX4_mayBe_1 ?_
    refine PW.aload_n rfl rfl dX4_mayBe_51 ?_
    refine PW.gI hS.1 (by decide) rfl (h6) fX4_55 dX4_mayBe_52 ?_
    refine PW.iload_n rfl rfl dX4_mayBe_55 ?_
    refine PW.icmp_geN 63 (by decide) (by first | omega | (split <;> omega)) (by first | omega | (split <;> omega)) dX4_mayBe_56 (fun hc56 => ?_) (fun hc56 => ?_)
    · refine PW.iconst (v := nI 0) (by decide) dX4_mayBe_63 ?_
      refine PW.zret rfl (by first | exact bI_nar _ | rfl) (Nat.le_refl _) (Nat.le_refl _) dX4_mayBe_64 ?_
      first | exact ⟨by rw [t1 (by omega)]; rfl, rfl⟩ | exact ⟨by rw [t2 (by omega)]; rfl, rfl⟩
    · refine PW.iconst (v := nI 1) (by decide) dX4_mayBe_59 ?_
      refine PW.goto 64 (by decide) dX4_mayBe_60 ?_
      refine PW.zret rfl (by first | exact bI_nar _ | rfl) (Nat.le_refl _) (Nat.le_refl _) dX4_mayBe_64 ?_
      first | exact ⟨by rw [t1 (by omega)]; rfl, rfl⟩ | exact ⟨by rw [t2 (by omega)]; rfl, rfl⟩
  by_cases h5 : r = 7
  · subst h5
    have t1 : (v < P ∧ v ≠ s0) → mbB P 7 s0 v = true := fun h => decide_eq_true h
    have t2 : ¬ (v < P ∧ v ≠ s0) → mbB P 7 s0 v = false := fun h => decide_eq_false h
    refine Ret.of (by decide) (Nat.le_of_ble_eq_true rfl) fun l G => ?_
    show PW _ _ _ _ [(0, _), (1, _), (2, _)] _ _ _
    refine PW.iload_n rfl rfl dX4_mayBe_0 ?_
    refine PW.tableIn (off := 64) 65 (by decide) (by decide) (by decide) (by decide) dX4_mayBe_1 ?_
    refine PW.aload_n rfl rfl dX4_mayBe_65 ?_
    refine PW.gI hS.1 (by decide) rfl (h6) fX4_55 dX4_mayBe_66 ?_
    refine PW.iload_n rfl rfl dX4_mayBe_69 ?_
    refine PW.icmp_geN 90 (by decide) (by first | omega | (split <;> omega)) (by first | omega | (split <;> omega)) dX4_mayBe_70 (fun hc70 => ?_) (fun hc70 => ?_)
    · refine PW.iconst (v := nI 0) (by decide) dX4_mayBe_90 ?_
      refine PW.zret rfl (by first | exact bI_nar _ | rfl) (Nat.le_refl _) (Nat.le_refl _) dX4_mayBe_91 ?_
      first | exact ⟨by rw [t1 (by omega)]; rfl, rfl⟩ | exact ⟨by rw [t2 (by omega)]; rfl, rfl⟩
    · refine PW.aload_n rfl rfl dX4_mayBe_73 ?_
      refine PW.gI hS.1 (by decide) rfl (h6) fX4_55 dX4_mayBe_74 ?_
      refine PW.aload_n rfl rfl dX4_mayBe_77 ?_
      refine PW.gR hS.1 (by decide) rfl fX4_15 dX4_mayBe_78 ?_
      refine PW.iconst (v := nI 0) (by decide) dX4_mayBe_81 ?_
      refine PW.aI hS.1 (by decide) rfl (by exact rfl) ⟨by omega, by decide⟩ (h0 rfl) dX4_mayBe_82 ?_
      refine PW.icmp_eqN 90 (by decide) (by first | omega | (split <;> omega)) (by first | omega | (split <;> omega)) dX4_mayBe_83 (fun hc83 => ?_) (fun hc83 => ?_)
      · refine PW.iconst (v := nI 0) (by decide) dX4_mayBe_90 ?_
        refine PW.zret rfl (by first | exact bI_nar _ | rfl) (Nat.le_refl _) (Nat.le_refl _) dX4_mayBe_91 ?_
        first | exact ⟨by rw [t1 (by omega)]; rfl, rfl⟩ | exact ⟨by rw [t2 (by omega)]; rfl, rfl⟩
      · refine PW.iconst (v := nI 1) (by decide) dX4_mayBe_86 ?_
        refine PW.goto 91 (by decide) dX4_mayBe_87 ?_
        refine PW.zret rfl (by first | exact bI_nar _ | rfl) (Nat.le_refl _) (Nat.le_refl _) dX4_mayBe_91 ?_
        first | exact ⟨by rw [t1 (by omega)]; rfl, rfl⟩ | exact ⟨by rw [t2 (by omega)]; rfl, rfl⟩
  have hr5 : r < 5 := by omega
  obtain ⟨l1, l2⟩ := lo_le r hr5
  have ht := nI_toInt (n := r) (by omega)
  have hsw : (nI r).toInt < 5 ∨ 7 < (nI r).toInt := by rw [ht]; omega
  have em : mbB P r s0 v = decide (loN r ≤ v ∧ v ≤ hiN r) := by
    unfold mbB
    rw [if_neg (by omega), if_neg (by omega), if_neg (by omega)]
  have ed : decide (nI (loN r) ≤ nI v ∧ nI v ≤ nI (hiN r)) = decide (loN r ≤ v ∧ v ≤ hiN r) := by
    rw [rng_x, nI_toInt (n := v) (by omega), nI_toInt (n := loN r) (by omega), nI_toInt (n := hiN r) (by omega)]
    congr 1
    apply propext
    constructor <;> (intro h; omega)
  refine Ret.of (by decide) (Nat.le_of_ble_eq_true rfl) fun l G => ?_
  show PW _ _ _ _ [(0, _), (1, _), (2, _)] _ _ _
  refine PW.iload_n rfl rfl dX4_mayBe_0 ?_
  refine PW.tableOut 92 hsw (by decide) dX4_mayBe_1 ?_
  refine PW.aload_n rfl rfl dX4_mayBe_92 ?_
  refine PW.gI hS.1 (by decide) rfl (h6) fX4_55 dX4_mayBe_93 ?_
  refine PW.gets (q := 6) (by decide) sX4_80 dX4_mayBe_96 ?_
  refine PW.iload_n rfl rfl dX4_mayBe_99 ?_
  refine PW.rd (hS.ro (r := 6) (by decide)) (by exact rfl) ⟨by omega, by first | decide | omega⟩ (lo_row r hr5) dX4_mayBe_100 ?_
  refine PW.gets (q := 7) (by decide) sX4_83 dX4_mayBe_101 ?_
  refine PW.iload_n rfl rfl dX4_mayBe_104 ?_
  refine PW.rd (hS.ro (r := 7) (by decide)) (by exact rfl) ⟨by omega, by first | decide | omega⟩ (hi_row r hr5) dX4_mayBe_105 ?_
  refine PW.cSN _ kX4_86 (x_within (nI v) (nI (loN r)) (nI (hiN r)) mem) rfl rfl (Nat.le_of_ble_eq_true rfl) ⟨by decide, by decide⟩ ⟨Nat.zero_le _, Nat.zero_le _⟩ dX4_mayBe_106 ?_
  refine PW.zret rfl (by first | exact bI_nar _ | rfl) (Nat.le_refl _) (Nat.le_refl _) dX4_mayBe_109 ?_
  exact ⟨by rw [ed, em], rfl⟩
set_option maxHeartbeats 8000000 in
theorem x_forgetAll (hS : St b s sc mem) (he : e = 49 ∨ e = 72) : Ret 1 0 0 mX2_forgetAll [.ref e] mem (fun v m1 => v = none ∧ St b s sc m1 ∧ Ag (fun r => r < e ∨ e + 20 < r) mem m1 ∧ XD m1 e R0) := by
  refine Ret.of (by decide) (Nat.le_of_ble_eq_true rfl) fun l G => ?_
  show PW _ _ _ _ [(0, _)] _ _ _
  refine PW.aload_n rfl rfl dX2_forgetAll_0 ?_
  refine PW.iconst (v := nI 0) (by decide) dX2_forgetAll_1 ?_
  refine PW.tI hS (by have := he; omega) (skR0 he) pX2_62 dX2_forgetAll_2 (fun hS hw2 => ?_)
  refine PW.aload_n rfl rfl dX2_forgetAll_5 ?_
  refine PW.iconst (v := nI 0) (by decide) dX2_forgetAll_6 ?_
  refine PW.tI hS (by have := he; omega) (skR1 he) pX2_66 dX2_forgetAll_7 (fun hS hw7 => ?_)
  refine PW.aload_n rfl rfl dX2_forgetAll_10 ?_
  refine PW.iconst (v := nI 0) (by decide) dX2_forgetAll_11 ?_
  refine PW.tI hS (by have := he; omega) (skR2 he) pX2_69 dX2_forgetAll_12 (fun hS hw12 => ?_)
  refine PW.aload_n rfl rfl dX2_forgetAll_15 ?_
  refine PW.gR hS.1 (by have := he; omega) (skR7 he) fX2_24 dX2_forgetAll_16 ?_
  refine PW.iconst (v := nI 0) (by decide) dX2_forgetAll_19 ?_
  refine PW.dS _ kX2_72 (j_fill hS (r := e + 5) (by omega) (akR5 he) (nI 0)) rfl rfl (Nat.le_of_ble_eq_true rfl) ⟨by decide, by decide⟩ ⟨Nat.zero_le _, Nat.zero_le _⟩ dX2_forgetAll_20 (fun v m1 q => ?_)
  obtain ⟨rfl, hS, hA1, hf1⟩ := q
  refine PW.aload_n rfl rfl dX2_forgetAll_23 ?_
  refine PW.gR hS.1 (by have := he; omega) (skR9 he) fX2_30 dX2_forgetAll_24 ?_
  refine PW.iconst (v := nI 0) (by decide) dX2_forgetAll_27 ?_
  refine PW.dS _ kX2_72 (j_fill hS (r := e + 7) (by omega) (akR7 he) (nI 0)) rfl rfl (Nat.le_of_ble_eq_true rfl) ⟨by decide, by decide⟩ ⟨Nat.zero_le _, Nat.zero_le _⟩ dX2_forgetAll_28 (fun v m1 q => ?_)
  obtain ⟨rfl, hS, hA2, hf2⟩ := q
  refine PW.aload_n rfl rfl dX2_forgetAll_31 ?_
  refine PW.gR hS.1 (by have := he; omega) (skR10 he) fX2_33 dX2_forgetAll_32 ?_
  refine PW.bipush (v := -9) (by decide) dX2_forgetAll_35 ?_
  refine PW.dS _ kX2_72 (j_fill hS (r := e + 8) (by omega) (akR8 he) (-9)) rfl rfl (Nat.le_of_ble_eq_true rfl) ⟨by decide, by decide⟩ ⟨Nat.zero_le _, Nat.zero_le _⟩ dX2_forgetAll_37 (fun v m1 q => ?_)
  obtain ⟨rfl, hS, hA3, hf3⟩ := q
  refine PW.iconst (v := nI 0) (by decide) dX2_forgetAll_40 ?_
  refine PW.istore_n rfl (by decide) dX2_forgetAll_41 (?_ : PW _ _ _ _ [(0, _), (1, _)] _ _ _)
  skip
  have hA : Ag (fun r => r < e ∨ e + 20 < r) mem _ := (((((Ag.wF (r := e) (j := 0) (v := .int (nI 0)) (by omega)).tr (Ag.wF (r := e) (j := 1) (v := .int (nI 0)) (by omega))).tr (Ag.wF (r := e) (j := 2) (v := .int (nI 0)) (by omega))).tr (hA1.mono (fun r h => by omega))).tr (hA2.mono (fun r h => by omega))).tr (hA3.mono (fun r h => by omega))
  have q0 : fi m1 e 0 = nI 0 := by rw [hA3.fi (by omega), hA2.fi (by omega), hA1.fi (by omega), fi_wF_ne (Or.inr (by decide)), fi_wF_ne (Or.inr (by decide))]; exact hw2
  have q1 : fi m1 e 1 = nI 0 := by rw [hA3.fi (by omega), hA2.fi (by omega), hA1.fi (by omega), fi_wF_ne (Or.inr (by decide))]; exact hw7
  have q2 : fi m1 e 2 = nI 0 := by rw [hA3.fi (by omega), hA2.fi (by omega), hA1.fi (by omega)]; exact hw12
  have q5 : ∀ k, k < 6 → iv m1 (e + 5) k = nI 0 := fun k hk => by rw [hA3.iv (by omega), hA2.iv (by omega)]; exact hf1 k hk
  have q7 : ∀ k, k < 6 → iv m1 (e + 7) k = nI 0 := fun k hk => by rw [hA3.iv (by omega)]; exact hf2 k hk
  refine PW.loop (I := fun k m => St b s sc m ∧ Ag (fun r => r < e + 11 ∨ e + 16 < r) m1 m ∧ ∀ a c, a < k → c < 6 → iv m (e + 11 + a) c = nI 0) (fun k _ => [(0, .ref e), (1, .int (nI k))]) (fun _ m => m) 6 (fun k m hk hI ih => ?_) (fun m hI => ?_) _ ⟨hS, Ag.rf, fun a c h => absurd h (Nat.not_lt_zero _)⟩
  · obtain ⟨hS, hB, hv⟩ := hI
    refine PW.iload_n rfl rfl dX2_forgetAll_42 ?_
    refine PW.bipush (v := nI 6) (by decide) dX2_forgetAll_43 ?_
    refine PW.icmp_geN 64 (by decide) (by first | omega | (split <;> omega)) (by first | omega | (split <;> omega)) dX2_forgetAll_45 (fun hc45 => by exfalso; omega) (fun hc45 => ?_)
    refine PW.aload_n rfl rfl dX2_forgetAll_48 ?_
    refine PW.gR hS.1 (by have := he; omega) (skR12 he) fX2_41 dX2_forgetAll_49 ?_
    refine PW.iload_n rfl rfl dX2_forgetAll_52 ?_
    refine PW.aQ hS.1 (by have := he; omega) (akR10 he) (fun _ => rfl) rfl (by exact rfl) ⟨by omega, by decide⟩ (akRq (by omega)) dX2_forgetAll_53 ?_
    refine PW.iconst (v := nI 0) (by decide) dX2_forgetAll_54 ?_
    refine PW.dS _ kX2_72 (j_fill hS (r := e + 11 + k) (by omega) (akRt he hk) (nI 0)) rfl rfl (Nat.le_of_ble_eq_true rfl) ⟨by decide, by decide⟩ ⟨Nat.zero_le _, Nat.zero_le _⟩ dX2_forgetAll_55 (fun v m1 q => ?_)
    obtain ⟨rfl, hS, hA4, hf4⟩ := q
    refine PW.iincN rfl (by decide) dX2_forgetAll_58 (?_ : PW _ _ _ _ [(0, _), (1, _)] _ _ _)
    refine PW.goto 42 (by decide) dX2_forgetAll_61 ?_
    refine ih _ ⟨hS, hB.tr (hA4.mono (fun r h => by omega)), fun a c ha hc => ?_⟩
    by_cases q : a = k
    · rw [q]; exact hf4 c hc
    · rw [hA4.iv (by omega)]; exact hv a c (by omega) hc
  · obtain ⟨hS, hB, hv⟩ := hI
    refine PW.iload_n rfl rfl dX2_forgetAll_42 ?_
    refine PW.bipush (v := nI 6) (by decide) dX2_forgetAll_43 ?_
    refine PW.icmp_geN 64 (by decide) (by first | omega | (split <;> omega)) (by first | omega | (split <;> omega)) dX2_forgetAll_45 (fun hc45 => ?_) (fun hc45 => by exfalso; omega)
    refine PW.vret rfl (Nat.le_refl _) (Nat.le_refl _) dX2_forgetAll_64 ?_
    refine ⟨rfl, hS, hA.tr (hB.mono (fun r h => by omega)), ?_⟩
    refine ⟨by rw [hB.fi (by omega)]; exact q0, by rw [hB.fi (by omega)]; exact q1, by rw [hB.fi (by omega)]; exact q2, fun k hk => absurd hk (Nat.not_lt_zero _), fun k hk => ⟨by rw [hB.iv (by omega)]; exact q5 k hk, fun h => absurd rfl h, by rw [hB.iv (by omega)]; exact q7 k hk, by rw [hB.iv (by omega)]; exact hf3 k hk, fun h => absurd rfl h⟩, fun a c ha hc => hv a c ha hc, fun t ht => absurd ht (Nat.not_lt_zero _)⟩
set_option maxHeartbeats 8000000 in
theorem x_tell (hS : St b s sc mem) (he : e = 49 ∨ e = 72) (hX : XD mem e R) (hI : Inv R) {c : Nat} (hf : frm c ≠ []) (hr : rom c R = true) (ha : ∀ j, j < (frm c).length → mbB (R 0 0) ((frm c).getD j 0) (sd 0) (sd j) = true) (hs : ∀ j, j < (frm c).length → iv mem 12 j = nI (sd j)) : Ret 1 0 0 mX2_tell [.ref e, .int (nI c), .ref 12] mem (fun v m1 => v = none ∧ St b s sc m1 ∧ Ag (fun r => r < e ∨ e + 20 < r) mem m1 ∧ XD m1 e (tell c R sd)) := by
  have h6 := hI.1.1
  rcases frm_cases hf with rfl | rfl | rfl | rfl | rfl | rfl | rfl
  · have hr : decide (R 0 0 < 6) = true := hr
    refine Ret.of (by decide) (Nat.le_of_ble_eq_true rfl) fun l G => ?_
    show PW _ _ _ _ [(0, _), (1, _), (2, _)] _ _ _
    refine PW.aload_n rfl rfl dX2_tell_0 ?_
    refine PW.iconst (v := nI 0) (by decide) dX2_tell_1 ?_
    refine PW.aI hS.1 (by decide) rfl (by exact rfl) ⟨by omega, by decide⟩ (hs 0 (by decide)) dX2_tell_2 ?_
    refine PW.istore_n rfl (by decide) dX2_tell_3 (?_ : PW _ _ _ _ [(0, _), (1, _), (2, _), (3, _)] _ _ _)
    refine PW.aload_n rfl rfl dX2_tell_4 ?_
    refine PW.iconst (v := nI 1) (by decide) dX2_tell_5 ?_
    refine PW.aI hS.1 (by decide) rfl (by exact rfl) ⟨by omega, by decide⟩ (hs 1 (by decide)) dX2_tell_6 ?_
    refine PW.istore (by decide) dX2_tell_7 (?_ : PW _ _ _ _ [(0, _), (1, _), (2, _), (3, _), (4, _)] _ _ _)
    refine PW.iload_n rfl rfl dX2_tell_9 ?_
    refine PW.tableIn (off := 114) 124 (by decide) (by decide) (by decide) (by decide) dX2_tell_10 ?_
    refine PW.aload_n rfl rfl dX2_tell_124 ?_
    refine PW.aload_n rfl rfl dX2_tell_125 ?_
    refine PW.dV (ci := 2) (j := 0) _ hS.1 (by have := he; omega) (skR0 he) kX2_78 (x_tellPocket hS he hX (of_decide_eq_true hr) hs) rfl rfl (Nat.le_of_ble_eq_true rfl) rfl ⟨by decide, by decide⟩ ⟨Nat.zero_le _, Nat.zero_le _⟩ dX2_tell_126 (fun v m1 q => ?_)
    obtain ⟨rfl, hS, hA, hX1⟩ := q
    refine PW.goto 198 (by decide) dX2_tell_129 ?_
    refine PW.vret rfl (Nat.le_refl _) (Nat.le_refl _) dX2_tell_198 ?_
    exact ⟨rfl, hS, hA, hX1⟩
  · have a0 : decide (sd 0 < R 0 0) = true := ha 0 (by decide)
    have g0 := of_decide_eq_true a0
    refine Ret.of (by decide) (Nat.le_of_ble_eq_true rfl) fun l G => ?_
    show PW _ _ _ _ [(0, _), (1, _), (2, _)] _ _ _
    refine PW.aload_n rfl rfl dX2_tell_0 ?_
    refine PW.iconst (v := nI 0) (by decide) dX2_tell_1 ?_
    refine PW.aI hS.1 (by decide) rfl (by exact rfl) ⟨by omega, by decide⟩ (hs 0 (by decide)) dX2_tell_2 ?_
    refine PW.istore_n rfl (by decide) dX2_tell_3 (?_ : PW _ _ _ _ [(0, _), (1, _), (2, _), (3, _)] _ _ _)
    refine PW.aload_n rfl rfl dX2_tell_4 ?_
    refine PW.iconst (v := nI 1) (by decide) dX2_tell_5 ?_
    refine PW.aI hS.1 (by decide) rfl (by exact rfl) ⟨by omega, by decide⟩ (hs 1 (by decide)) dX2_tell_6 ?_
    refine PW.istore (by decide) dX2_tell_7 (?_ : PW _ _ _ _ [(0, _), (1, _), (2, _), (3, _), (4, _)] _ _ _)
    refine PW.iload_n rfl rfl dX2_tell_9 ?_
    refine PW.tableIn (off := 122) 132 (by decide) (by decide) (by decide) (by decide) dX2_tell_10 ?_
    refine PW.aload_n rfl rfl dX2_tell_132 ?_
    refine PW.iconst (v := nI 1) (by decide) dX2_tell_133 ?_
    refine PW.iload_n rfl rfl dX2_tell_134 ?_
    refine PW.iload rfl dX2_tell_135 ?_
    refine PW.dV (ci := 2) (j := 0) _ hS.1 (by have := he; omega) (skR0 he) kX2_82 (x_tellLaw hS he hX (h := 1) (by omega)) rfl rfl (Nat.le_of_ble_eq_true rfl) rfl ⟨by decide, by decide⟩ ⟨Nat.zero_le _, Nat.zero_le _⟩ dX2_tell_137 (fun v m1 q => ?_)
    obtain ⟨rfl, hS, hA, hX1⟩ := q
    refine PW.goto 198 (by decide) dX2_tell_140 ?_
    refine PW.vret rfl (Nat.le_refl _) (Nat.le_refl _) dX2_tell_198 ?_
    exact ⟨rfl, hS, hA, hX1⟩
  · have a0 : decide (sd 0 < R 0 0) = true := ha 0 (by decide)
    have g0 := of_decide_eq_true a0
    refine Ret.of (by decide) (Nat.le_of_ble_eq_true rfl) fun l G => ?_
    show PW _ _ _ _ [(0, _), (1, _), (2, _)] _ _ _
    refine PW.aload_n rfl rfl dX2_tell_0 ?_
    refine PW.iconst (v := nI 0) (by decide) dX2_tell_1 ?_
    refine PW.aI hS.1 (by decide) rfl (by exact rfl) ⟨by omega, by decide⟩ (hs 0 (by decide)) dX2_tell_2 ?_
    refine PW.istore_n rfl (by decide) dX2_tell_3 (?_ : PW _ _ _ _ [(0, _), (1, _), (2, _), (3, _)] _ _ _)
    refine PW.aload_n rfl rfl dX2_tell_4 ?_
    refine PW.iconst (v := nI 1) (by decide) dX2_tell_5 ?_
    refine PW.aI hS.1 (by decide) rfl (by exact rfl) ⟨by omega, by decide⟩ (hs 1 (by decide)) dX2_tell_6 ?_
    refine PW.istore (by decide) dX2_tell_7 (?_ : PW _ _ _ _ [(0, _), (1, _), (2, _), (3, _), (4, _)] _ _ _)
    refine PW.iload_n rfl rfl dX2_tell_9 ?_
    refine PW.tableIn (off := 133) 143 (by decide) (by decide) (by decide) (by decide) dX2_tell_10 ?_
    refine PW.aload_n rfl rfl dX2_tell_143 ?_
    refine PW.iconst (v := nI 2) (by decide) dX2_tell_144 ?_
    refine PW.iload_n rfl rfl dX2_tell_145 ?_
    refine PW.iload rfl dX2_tell_146 ?_
    refine PW.dV (ci := 2) (j := 0) _ hS.1 (by have := he; omega) (skR0 he) kX2_82 (x_tellLaw hS he hX (h := 2) (by omega)) rfl rfl (Nat.le_of_ble_eq_true rfl) rfl ⟨by decide, by decide⟩ ⟨Nat.zero_le _, Nat.zero_le _⟩ dX2_tell_148 (fun v m1 q => ?_)
    obtain ⟨rfl, hS, hA, hX1⟩ := q
    refine PW.goto 198 (by decide) dX2_tell_151 ?_
    refine PW.vret rfl (Nat.le_refl _) (Nat.le_refl _) dX2_tell_198 ?_
    exact ⟨rfl, hS, hA, hX1⟩
  · have a0 : decide (sd 0 < R 0 0) = true := ha 0 (by decide)
    have g0 := of_decide_eq_true a0
    have a1 : decide (sd 1 < R 0 0 ∧ sd 1 ≠ sd 0) = true := ha 1 (by decide)
    have g1 := of_decide_eq_true a1
    refine Ret.of (by decide) (Nat.le_of_ble_eq_true rfl) fun l G => ?_
    show PW _ _ _ _ [(0, _), (1, _), (2, _)] _ _ _
    refine PW.aload_n rfl rfl dX2_tell_0 ?_
    refine PW.iconst (v := nI 0) (by decide) dX2_tell_1 ?_
    refine PW.aI hS.1 (by decide) rfl (by exact rfl) ⟨by omega, by decide⟩ (hs 0 (by decide)) dX2_tell_2 ?_
    refine PW.istore_n rfl (by decide) dX2_tell_3 (?_ : PW _ _ _ _ [(0, _), (1, _), (2, _), (3, _)] _ _ _)
    refine PW.aload_n rfl rfl dX2_tell_4 ?_
    refine PW.iconst (v := nI 1) (by decide) dX2_tell_5 ?_
    refine PW.aI hS.1 (by decide) rfl (by exact rfl) ⟨by omega, by decide⟩ (hs 1 (by decide)) dX2_tell_6 ?_
    refine PW.istore (by decide) dX2_tell_7 (?_ : PW _ _ _ _ [(0, _), (1, _), (2, _), (3, _), (4, _)] _ _ _)
    refine PW.iload_n rfl rfl dX2_tell_9 ?_
    refine PW.tableIn (off := 144) 154 (by decide) (by decide) (by decide) (by decide) dX2_tell_10 ?_
    refine PW.aload_n rfl rfl dX2_tell_154 ?_
    refine PW.iload_n rfl rfl dX2_tell_155 ?_
    refine PW.iload rfl dX2_tell_156 ?_
    refine PW.dV (ci := 2) (j := 0) _ hS.1 (by have := he; omega) (skR0 he) kX2_86 (x_tellSeam hS he hX (by omega) (by omega) g1.2) rfl rfl (Nat.le_of_ble_eq_true rfl) rfl ⟨by decide, by decide⟩ ⟨Nat.zero_le _, Nat.zero_le _⟩ dX2_tell_158 (fun v m1 q => ?_)
    obtain ⟨rfl, hS, hA, hX1⟩ := q
    refine PW.goto 198 (by decide) dX2_tell_161 ?_
    refine PW.vret rfl (Nat.le_refl _) (Nat.le_refl _) dX2_tell_198 ?_
    exact ⟨rfl, hS, hA, hX1⟩
  · have a0 : decide (sd 0 < R 0 0) = true := ha 0 (by decide)
    have g0 := of_decide_eq_true a0
    have a1 : decide (sd 1 < R 0 0 ∧ sd 1 ≠ sd 0) = true := ha 1 (by decide)
    have g1 := of_decide_eq_true a1
    refine Ret.of (by decide) (Nat.le_of_ble_eq_true rfl) fun l G => ?_
    show PW _ _ _ _ [(0, _), (1, _), (2, _)] _ _ _
    refine PW.aload_n rfl rfl dX2_tell_0 ?_
    refine PW.iconst (v := nI 0) (by decide) dX2_tell_1 ?_
    refine PW.aI hS.1 (by decide) rfl (by exact rfl) ⟨by omega, by decide⟩ (hs 0 (by decide)) dX2_tell_2 ?_
    refine PW.istore_n rfl (by decide) dX2_tell_3 (?_ : PW _ _ _ _ [(0, _), (1, _), (2, _), (3, _)] _ _ _)
    refine PW.aload_n rfl rfl dX2_tell_4 ?_
    refine PW.iconst (v := nI 1) (by decide) dX2_tell_5 ?_
    refine PW.aI hS.1 (by decide) rfl (by exact rfl) ⟨by omega, by decide⟩ (hs 1 (by decide)) dX2_tell_6 ?_
    refine PW.istore (by decide) dX2_tell_7 (?_ : PW _ _ _ _ [(0, _), (1, _), (2, _), (3, _), (4, _)] _ _ _)
    refine PW.iload_n rfl rfl dX2_tell_9 ?_
    refine PW.tableIn (off := 154) 164 (by decide) (by decide) (by decide) (by decide) dX2_tell_10 ?_
    refine PW.aload_n rfl rfl dX2_tell_164 ?_
    refine PW.iload_n rfl rfl dX2_tell_165 ?_
    refine PW.iload rfl dX2_tell_166 ?_
    refine PW.aload_n rfl rfl dX2_tell_168 ?_
    refine PW.iconst (v := nI 2) (by decide) dX2_tell_169 ?_
    refine PW.aI hS.1 (by decide) rfl (by exact rfl) ⟨by omega, by decide⟩ (hs 2 (by decide)) dX2_tell_170 ?_
    refine PW.dV (ci := 2) (j := 0) _ hS.1 (by have := he; omega) (skR0 he) kX2_90 (x_tellHole hS he hX (by omega) (by omega)) rfl rfl (Nat.le_of_ble_eq_true rfl) rfl ⟨by decide, by decide⟩ ⟨Nat.zero_le _, Nat.zero_le _⟩ dX2_tell_171 (fun v m1 q => ?_)
    obtain ⟨rfl, hS, hA, hX1⟩ := q
    refine PW.goto 198 (by decide) dX2_tell_174 ?_
    refine PW.vret rfl (Nat.le_refl _) (Nat.le_refl _) dX2_tell_198 ?_
    exact ⟨rfl, hS, hA, hX1⟩
  · have a0 : decide (sd 0 < R 0 0) = true := ha 0 (by decide)
    have g0 := of_decide_eq_true a0
    have a1 : decide (sd 1 < R 0 0 ∧ sd 1 ≠ sd 0) = true := ha 1 (by decide)
    have g1 := of_decide_eq_true a1
    have a2 : decide (0 ≤ sd 2 ∧ sd 2 ≤ 5) = true := ha 2 (by decide)
    have g2 := of_decide_eq_true a2
    refine Ret.of (by decide) (Nat.le_of_ble_eq_true rfl) fun l G => ?_
    show PW _ _ _ _ [(0, _), (1, _), (2, _)] _ _ _
    refine PW.aload_n rfl rfl dX2_tell_0 ?_
    refine PW.iconst (v := nI 0) (by decide) dX2_tell_1 ?_
    refine PW.aI hS.1 (by decide) rfl (by exact rfl) ⟨by omega, by decide⟩ (hs 0 (by decide)) dX2_tell_2 ?_
    refine PW.istore_n rfl (by decide) dX2_tell_3 (?_ : PW _ _ _ _ [(0, _), (1, _), (2, _), (3, _)] _ _ _)
    refine PW.aload_n rfl rfl dX2_tell_4 ?_
    refine PW.iconst (v := nI 1) (by decide) dX2_tell_5 ?_
    refine PW.aI hS.1 (by decide) rfl (by exact rfl) ⟨by omega, by decide⟩ (hs 1 (by decide)) dX2_tell_6 ?_
    refine PW.istore (by decide) dX2_tell_7 (?_ : PW _ _ _ _ [(0, _), (1, _), (2, _), (3, _), (4, _)] _ _ _)
    refine PW.iload_n rfl rfl dX2_tell_9 ?_
    refine PW.tableIn (off := 167) 177 (by decide) (by decide) (by decide) (by decide) dX2_tell_10 ?_
    refine PW.aload_n rfl rfl dX2_tell_177 ?_
    refine PW.iload_n rfl rfl dX2_tell_178 ?_
    refine PW.iload rfl dX2_tell_179 ?_
    refine PW.aload_n rfl rfl dX2_tell_181 ?_
    refine PW.iconst (v := nI 2) (by decide) dX2_tell_182 ?_
    refine PW.aI hS.1 (by decide) rfl (by exact rfl) ⟨by omega, by decide⟩ (hs 2 (by decide)) dX2_tell_183 ?_
    refine PW.dV (ci := 2) (j := 0) _ hS.1 (by have := he; omega) (skR0 he) kX2_93 (x_tellTreaty hS he hX (by omega) (by omega) g1.2 (by omega)) rfl rfl (Nat.le_of_ble_eq_true rfl) rfl ⟨by decide, by decide⟩ ⟨Nat.zero_le _, Nat.zero_le _⟩ dX2_tell_184 (fun v m1 q => ?_)
    obtain ⟨rfl, hS, hA, hX1⟩ := q
    refine PW.goto 198 (by decide) dX2_tell_187 ?_
    refine PW.vret rfl (Nat.le_refl _) (Nat.le_refl _) dX2_tell_198 ?_
    exact ⟨rfl, hS, hA, hX1⟩
  · have hr : decide (R 1 0 < 6) = true := hr
    refine Ret.of (by decide) (Nat.le_of_ble_eq_true rfl) fun l G => ?_
    show PW _ _ _ _ [(0, _), (1, _), (2, _)] _ _ _
    refine PW.aload_n rfl rfl dX2_tell_0 ?_
    refine PW.iconst (v := nI 0) (by decide) dX2_tell_1 ?_
    refine PW.aI hS.1 (by decide) rfl (by exact rfl) ⟨by omega, by decide⟩ (hs 0 (by decide)) dX2_tell_2 ?_
    refine PW.istore_n rfl (by decide) dX2_tell_3 (?_ : PW _ _ _ _ [(0, _), (1, _), (2, _), (3, _)] _ _ _)
    refine PW.aload_n rfl rfl dX2_tell_4 ?_
    refine PW.iconst (v := nI 1) (by decide) dX2_tell_5 ?_
    refine PW.aI hS.1 (by decide) rfl (by exact rfl) ⟨by omega, by decide⟩ (hs 1 (by decide)) dX2_tell_6 ?_
    refine PW.istore (by decide) dX2_tell_7 (?_ : PW _ _ _ _ [(0, _), (1, _), (2, _), (3, _), (4, _)] _ _ _)
    refine PW.iload_n rfl rfl dX2_tell_9 ?_
    refine PW.tableIn (off := 180) 190 (by decide) (by decide) (by decide) (by decide) dX2_tell_10 ?_
    refine PW.aload_n rfl rfl dX2_tell_190 ?_
    refine PW.aload_n rfl rfl dX2_tell_191 ?_
    refine PW.dV (ci := 2) (j := 0) _ hS.1 (by have := he; omega) (skR0 he) kX2_96 (x_tellThing hS he hX (of_decide_eq_true hr) hs) rfl rfl (Nat.le_of_ble_eq_true rfl) rfl ⟨by decide, by decide⟩ ⟨Nat.zero_le _, Nat.zero_le _⟩ dX2_tell_192 (fun v m1 q => ?_)
    obtain ⟨rfl, hS, hA, hX1⟩ := q
    refine PW.goto 198 (by decide) dX2_tell_195 ?_
    refine PW.vret rfl (Nat.le_refl _) (Nat.le_refl _) dX2_tell_198 ?_
    exact ⟨rfl, hS, hA, hX1⟩
end XRD
