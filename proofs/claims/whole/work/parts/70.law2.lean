/-! ===== the law ===== -/
theorem and31 (x : Int32) : ∃ q, q < 32 ∧ x &&& nI 31 = nI q := by
  refine ⟨x.toBitVec.toNat &&& 31, Nat.lt_succ_of_le Nat.and_le_right, ?_⟩
  apply Int32.toBitVec_inj.1
  show x.toBitVec &&& BitVec.ofNat 32 31 = BitVec.ofNat 32 (x.toBitVec.toNat &&& 31)
  apply BitVec.eq_of_toNat_eq
  rw [BitVec.toNat_and, BitVec.toNat_ofNat, BitVec.toNat_ofNat, Nat.mod_eq_of_lt (show 31 < 2 ^ 32 by decide), Nat.mod_eq_of_lt (Nat.lt_of_le_of_lt Nat.and_le_right (by decide))]
theorem small_6 : ∀ n, n < 6 → nI n - nI 6 < nI 0 := by decide
section LAW
variable {nm : String} {l : Launch} {G : pw_G} {N : Nat} {xs : Nat → Int32}
set_option maxHeartbeats 16000000 in
theorem p_law (hN : N ≤ 3072) : PW (l, G, mL_law nm, room_1, 600000, 7302250) 0 0 0 [(0, .ref 8)] [] (RO8 ++ [.inl (0, N, .inl xs)]) (fun v _ => v = some (.int 1)) := by
  show PW _ _ _ _ [(0, .ref 8)] [] (KL (.inl (0, N, .inl xs)) [] []) _
  refine PW.kNew nL_7 ⟨Nat.le_of_ble_eq_true rfl, Nat.le_of_ble_eq_true rfl⟩ dL_law_0 (?_ : PW _ _ _ _ [(0, .ref 8)] [.ref 9] (KL (.inl (0, N, .inl xs)) [] [.inr (5, [.null, .null, .null, .null, .null, .null, .null, .null, .null, .null, .null, .long 0])]) _)
  refine PW.dup rfl dL_law_3 ?_
  refine PW.callI [] kL_9 i_Laws rfl rfl (Nat.le_of_ble_eq_true rfl) ⟨by decide, by decide⟩ ⟨Nat.le_of_ble_eq_true rfl, Nat.le_of_ble_eq_true rfl⟩ dL_law_4 (fun v m1 q => ?_)
  obtain ⟨rfl, hS, hA, hX, hL⟩ := q
  refine PW.astore_n rfl (show 1 < 4 by decide) dL_law_7 (?_ : PW _ _ _ _ [(0, .ref 8), (1, .ref 9)] [] m1 _)
  have hK := beg_KL hA
  have hl86 : (m1.drop 9).length = 86 := by rw [List.length_drop, beg_len hA]
  have hrel := beg_rel hS hA hX hL
  generalize m1.drop 9 = L1 at hK hl86 hrel
  rw [hK]
  refine PW.nNew (A := 95) nL_10 (by rw [hl86]; rfl) ⟨Nat.le_of_ble_eq_true rfl, Nat.le_of_ble_eq_true rfl⟩ dL_law_8 ?_
  refine PW.dup rfl dL_law_11 ?_
  refine PW.callI [] kL_12 (i_Model (L := L1) (N := 95) (by rw [hl86])) rfl rfl (Nat.le_of_ble_eq_true rfl) ⟨by decide, by decide⟩ ⟨Nat.le_of_ble_eq_true rfl, Nat.le_of_ble_eq_true rfl⟩ dL_law_12 (fun v m2 q => ?_)
  obtain ⟨rfl, rfl⟩ := q
  refine PW.astore_n rfl (show 2 < 4 by decide) dL_law_15 (?_ : PW _ _ _ _ [(0, .ref 8), (1, .ref 9), (2, .ref 95)] [] _ _)
  refine PW.iconst (v := nI 0) (by decide) dL_law_16 ?_
  refine PW.istore_n rfl (show 3 < 4 by decide) dL_law_17 (?_ : PW _ _ _ _ [(0, .ref 8), (1, .ref 9), (2, .ref 95), (3, .int (nI (6 * 0)))] [] _ _)
  refine PW.loop (I := fun j m => Rel (.inl (0, N, .inl xs)) m) (fun j _ => [(0, .ref 8), (1, .ref 9), (2, .ref 95), (3, .int (nI (6 * j)))]) (fun _ m => m) (N / 6) (fun j m hj hR ih => ?_) (fun m hR => ?_) _ hrel
  · obtain ⟨hSh, hm8⟩ := hR.sh
    have hj6 : 6 * j + 6 ≤ N := by omega
    refine PW.iload_n rfl rfl dL_law_18 ?_
    refine PW.aload_n rfl rfl dL_law_19 ?_
    refine PW.alen0 hm8 (by decide) dL_law_20 ?_
    refine PW.bipush (v := nI 6) (by decide) dL_law_21 ?_
    refine PW.isubN (a := N) (by omega) dL_law_23 ?_
    refine PW.icmp_gtN 813 (by decide) (by omega) (by omega) dL_law_24 (fun h => by exfalso; omega) (fun _ => ?_)
    refine PW.aload_n rfl rfl dL_law_27 ?_
    refine PW.iload_n rfl rfl dL_law_28 ?_
    refine PW.rdS hm8 rfl ⟨by omega, by omega⟩ dL_law_29 ?_
    refine PW.bipush (v := nI 31) (by decide) dL_law_30 ?_
    refine PW.iand dL_law_32 ?_
    obtain ⟨q, hq, eq⟩ := and31 (xs (6 * j))
    rw [eq]
    have kk : ∀ m2, Rel (.inl (0, N, .inl xs)) m2 → PW (l, G, mL_law nm, room_1, 600000, 7302250) (0 + 1 + 85 + 1 + 22) (0 + 12 + 1100 + 36 + 628) 807 [(0, .ref 8), (1, .ref 9), (2, .ref 95), (3, .int (nI (6 * j)))] [] m2 (fun v _ => v = some (.int 1)) := fun m2 h2 => by
      refine PW.iinc (v := nI (6 * (j + 1))) rfl (nI_add (6 * j) 6) (show 3 < 4 by decide) dL_law_807 (?_ : PW _ _ _ _ [(0, _), (1, _), (2, _), (3, _)] _ _ _)
      refine PW.goto 18 (by decide) dL_law_810 ?_
      exact ih m2 h2
    by_cases h0 : q = 0
    · subst h0
      refine PW.tableIn (off := 111) 144 (by decide) (by decide) (by decide) (by decide) dL_law_33 ?_
      exact lw_type hR hN hj6 ⟨Nat.le_of_ble_eq_true rfl, Nat.le_of_ble_eq_true rfl⟩ kk
    by_cases h1 : q = 1
    · subst h1
      refine PW.tableIn (off := 134) 167 (by decide) (by decide) (by decide) (by decide) dL_law_33 ?_
      exact lw_clear hR hN hj6 ⟨Nat.le_of_ble_eq_true rfl, Nat.le_of_ble_eq_true rfl⟩ kk
    by_cases h2 : q = 2
    · subst h2
      refine PW.tableIn (off := 147) 180 (by decide) (by decide) (by decide) (by decide) dL_law_33 ?_
      exact lw_realm hR hN hj6 ⟨Nat.le_of_ble_eq_true rfl, Nat.le_of_ble_eq_true rfl⟩ kk
    by_cases h3 : q = 3
    · subst h3
      refine PW.tableIn (off := 160) 193 (by decide) (by decide) (by decide) (by decide) dL_law_33 ?_
      exact lw_pocket hR hN hj6 ⟨Nat.le_of_ble_eq_true rfl, Nat.le_of_ble_eq_true rfl⟩ kk
    by_cases h4 : q = 4
    · subst h4
      refine PW.tableIn (off := 193) 226 (by decide) (by decide) (by decide) (by decide) dL_law_33 ?_
      exact lw_thing hR hN hj6 ⟨Nat.le_of_ble_eq_true rfl, Nat.le_of_ble_eq_true rfl⟩ kk
    by_cases h5 : q = 5
    · subst h5
      refine PW.tableIn (off := 226) 259 (by decide) (by decide) (by decide) (by decide) dL_law_33 ?_
      exact lw_letsIn hR hN hj6 ⟨Nat.le_of_ble_eq_true rfl, Nat.le_of_ble_eq_true rfl⟩ kk
    by_cases h6 : q = 6
    · subst h6
      refine PW.tableIn (off := 259) 292 (by decide) (by decide) (by decide) (by decide) dL_law_33 ?_
      exact lw_fixed hR hN hj6 ⟨Nat.le_of_ble_eq_true rfl, Nat.le_of_ble_eq_true rfl⟩ kk
    by_cases h7 : q = 7
    · subst h7
      refine PW.tableIn (off := 282) 315 (by decide) (by decide) (by decide) (by decide) dL_law_33 ?_
      exact lw_now hR hN hj6 ⟨Nat.le_of_ble_eq_true rfl, Nat.le_of_ble_eq_true rfl⟩ kk
    by_cases h8 : q = 8
    · subst h8
      refine PW.tableIn (off := 305) 338 (by decide) (by decide) (by decide) (by decide) dL_law_33 ?_
      exact lw_moves hR hN hj6 ⟨Nat.le_of_ble_eq_true rfl, Nat.le_of_ble_eq_true rfl⟩ kk
    by_cases h9 : q = 9
    · subst h9
      refine PW.tableIn (off := 338) 371 (by decide) (by decide) (by decide) (by decide) dL_law_33 ?_
      exact lw_night hR hN hj6 ⟨Nat.le_of_ble_eq_true rfl, Nat.le_of_ble_eq_true rfl⟩ kk
    by_cases h10 : q = 10
    · subst h10
      refine PW.tableIn (off := 351) 384 (by decide) (by decide) (by decide) (by decide) dL_law_33 ?_
      exact lw_undo hR hN hj6 ⟨Nat.le_of_ble_eq_true rfl, Nat.le_of_ble_eq_true rfl⟩ kk
    by_cases h11 : q = 11
    · subst h11
      refine PW.tableIn (off := 364) 397 (by decide) (by decide) (by decide) (by decide) dL_law_33 ?_
      exact lw_way hR hN hj6 ⟨Nat.le_of_ble_eq_true rfl, Nat.le_of_ble_eq_true rfl⟩ kk
    by_cases h12 : q = 12
    · subst h12
      refine PW.tableIn (off := 407) 440 (by decide) (by decide) (by decide) (by decide) dL_law_33 ?_
      exact lw_stow hR hN hj6 ⟨Nat.le_of_ble_eq_true rfl, Nat.le_of_ble_eq_true rfl⟩ kk
    by_cases h13 : q = 13
    · subst h13
      refine PW.tableIn (off := 430) 463 (by decide) (by decide) (by decide) (by decide) dL_law_33 ?_
      exact lw_hoard hR hN hj6 ⟨Nat.le_of_ble_eq_true rfl, Nat.le_of_ble_eq_true rfl⟩ kk
    by_cases h14 : q = 14
    · subst h14
      refine PW.tableIn (off := 453) 486 (by decide) (by decide) (by decide) (by decide) dL_law_33 ?_
      exact lw_saves hR hN hj6 ⟨Nat.le_of_ble_eq_true rfl, Nat.le_of_ble_eq_true rfl⟩ kk
    by_cases h15 : q = 15
    · subst h15
      refine PW.tableIn (off := 486) 519 (by decide) (by decide) (by decide) (by decide) dL_law_33 ?_
      exact lw_drops hR hN hj6 ⟨Nat.le_of_ble_eq_true rfl, Nat.le_of_ble_eq_true rfl⟩ kk
    by_cases h16 : q = 16
    · subst h16
      refine PW.tableIn (off := 519) 552 (by decide) (by decide) (by decide) (by decide) dL_law_33 ?_
      exact lw_lay hR hN hj6 ⟨Nat.le_of_ble_eq_true rfl, Nat.le_of_ble_eq_true rfl⟩ kk
    by_cases h17 : q = 17
    · subst h17
      refine PW.tableIn (off := 552) 585 (by decide) (by decide) (by decide) (by decide) dL_law_33 ?_
      exact lw_stitches hR hN hj6 ⟨Nat.le_of_ble_eq_true rfl, Nat.le_of_ble_eq_true rfl⟩ kk
    by_cases h18 : q = 18
    · subst h18
      refine PW.tableIn (off := 595) 628 (by decide) (by decide) (by decide) (by decide) dL_law_33 ?_
      exact lw_odds hR hN hj6 ⟨Nat.le_of_ble_eq_true rfl, Nat.le_of_ble_eq_true rfl⟩ kk
    by_cases h19 : q = 19
    · subst h19
      refine PW.tableIn (off := 658) 691 (by decide) (by decide) (by decide) (by decide) dL_law_33 ?_
      exact lw_rate hR hN hj6 ⟨Nat.le_of_ble_eq_true rfl, Nat.le_of_ble_eq_true rfl⟩ kk
    by_cases h20 : q = 20
    · subst h20
      refine PW.tableIn (off := 691) 724 (by decide) (by decide) (by decide) (by decide) dL_law_33 ?_
      exact lw_keep hR hN hj6 ⟨Nat.le_of_ble_eq_true rfl, Nat.le_of_ble_eq_true rfl⟩ kk
    by_cases h21 : q = 21
    · subst h21
      refine PW.tableIn (off := 714) 747 (by decide) (by decide) (by decide) (by decide) dL_law_33 ?_
      exact lw_back hR hN hj6 ⟨Nat.le_of_ble_eq_true rfl, Nat.le_of_ble_eq_true rfl⟩ kk
    by_cases h22 : q = 22
    · subst h22
      refine PW.tableIn (off := 737) 770 (by decide) (by decide) (by decide) (by decide) dL_law_33 ?_
      exact lw_count hR hN hj6 ⟨Nat.le_of_ble_eq_true rfl, Nat.le_of_ble_eq_true rfl⟩ kk
    by_cases h23 : q = 23
    · subst h23
      refine PW.tableIn (off := 760) 793 (by decide) (by decide) (by decide) (by decide) dL_law_33 ?_
      exact lw_trace hR hN hj6 ⟨Nat.le_of_ble_eq_true rfl, Nat.le_of_ble_eq_true rfl⟩ kk
    have ht := nI_toInt (n := q) (by omega)
    have hsw : (nI q).toInt < 0 ∨ 23 < (nI q).toInt := by rw [ht]; omega
    refine PW.tableOut 807 hsw (by decide) dL_law_33 ?_
    exact kk m hR
  · obtain ⟨hSh, hm8⟩ := hR.sh
    refine PW.iload_n rfl rfl dL_law_18 ?_
    refine PW.aload_n rfl rfl dL_law_19 ?_
    refine PW.alen0 hm8 (by decide) dL_law_20 ?_
    refine PW.bipush (v := nI 6) (by decide) dL_law_21 ?_
    by_cases h6 : 6 ≤ N
    · refine PW.isubN (a := N) (by omega) dL_law_23 ?_
      refine PW.icmp_gtN 813 (by decide) (by omega) (by omega) dL_law_24 (fun _ => ?_) (fun h => by exfalso; omega)
      refine PW.iconst (v := 1) (by decide) dL_law_813 ?_
      refine PW.zret rfl rfl (Nat.le_of_ble_eq_true rfl) (Nat.le_of_ble_eq_true rfl) dL_law_814 ?_
      rfl
    · refine PW.isub dL_law_23 ?_
      have e0 : N / 6 = 0 := by omega
      rw [e0]
      refine PW.icmp_gt 813 (by decide) dL_law_24 (fun _ => ?_) (fun h => absurd (small_6 N (by omega)) h)
      refine PW.iconst (v := 1) (by decide) dL_law_813 ?_
      refine PW.zret rfl rfl (Nat.le_of_ble_eq_true rfl) (Nat.le_of_ble_eq_true rfl) dL_law_814 ?_
      rfl
end LAW
