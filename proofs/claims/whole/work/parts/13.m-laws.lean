/-! ===== the model: tests, laws ===== -/
section MLW
variable {b s : Nat} {sc : pw_E} {mem : pw_M} {R : DR}
set_option maxHeartbeats 4000000 in
theorem m_isPocket (hS : St b s sc mem) (hM : MD mem R) (hD : Dat R) (k : Int32) : Rf 1 mX6_isPocket [.ref 95, .int k] mem (some (.int (bI (inR k (R 0 0))))) mem := by
  have h6 := hD.1
  refine Ret.of (by decide) (Nat.le_of_ble_eq_true rfl) fun l G => ?_
  show PW _ _ _ _ [(0, _), (1, _)] _ _ _
  refine PW.iload_n rfl rfl dX6_isPocket_0 ?_
  refine PW.i2l dX6_isPocket_1 ?_
  refine PW.lconst (v := 0) (by decide) dX6_isPocket_2 ?_
  refine PW.aload_n rfl rfl dX6_isPocket_3 ?_
  refine PW.gI hS.1 (by decide) rfl (by first | exact hM.1 | exact rfl) fX6_78 dX6_isPocket_4 ?_
  refine PW.iconst (v := nI 1) (by decide) dX6_isPocket_7 ?_
  refine PW.isub dX6_isPocket_8 ?_
  refine PW.i2l dX6_isPocket_9 ?_
  refine PW.cS _ kX6_82 (m_in k.toInt64 0 (nI (R 0 0) - nI 1).toInt64 mem) rfl rfl (Nat.le_of_ble_eq_true rfl) ⟨by decide, by decide⟩ ⟨Nat.zero_le _, Nat.zero_le _⟩ dX6_isPocket_10 ?_
  refine PW.zret rfl (by first | exact bI_nar _ | rfl) (Nat.le_refl _) (Nat.le_refl _) dX6_isPocket_13 ?_
  exact ⟨by rw [inR_m (by omega)], rfl⟩
set_option maxHeartbeats 4000000 in
theorem m_isThing (hS : St b s sc mem) (hM : MD mem R) (hD : Dat R) (k : Int32) : Rf 1 mX6_isThing [.ref 95, .int k] mem (some (.int (bI (inR k (R 1 0))))) mem := by
  have h6 := hD.2.1
  refine Ret.of (by decide) (Nat.le_of_ble_eq_true rfl) fun l G => ?_
  show PW _ _ _ _ [(0, _), (1, _)] _ _ _
  refine PW.iload_n rfl rfl dX6_isThing_0 ?_
  refine PW.i2l dX6_isThing_1 ?_
  refine PW.lconst (v := 0) (by decide) dX6_isThing_2 ?_
  refine PW.aload_n rfl rfl dX6_isThing_3 ?_
  refine PW.gI hS.1 (by decide) rfl (by first | exact hM.2.1 | exact rfl) fX6_86 dX6_isThing_4 ?_
  refine PW.iconst (v := nI 1) (by decide) dX6_isThing_7 ?_
  refine PW.isub dX6_isThing_8 ?_
  refine PW.i2l dX6_isThing_9 ?_
  refine PW.cS _ kX6_82 (m_in k.toInt64 0 (nI (R 1 0) - nI 1).toInt64 mem) rfl rfl (Nat.le_of_ble_eq_true rfl) ⟨by decide, by decide⟩ ⟨Nat.zero_le _, Nat.zero_le _⟩ dX6_isThing_10 ?_
  refine PW.zret rfl (by first | exact bI_nar _ | rfl) (Nat.le_refl _) (Nat.le_refl _) dX6_isThing_13 ?_
  exact ⟨by rw [inR_m (by omega)], rfl⟩
theorem inR_c {k : Int32} {n : Nat} {lo hi : Int} (h0 : lo = 0) (hn : hi = (n : Int) - 1) : decide (lo ≤ k.toInt ∧ k.toInt ≤ hi) = inR k n := by
  unfold inR
  congr 1
  apply propext
  constructor <;> (intro h; omega)
set_option maxHeartbeats 4000000 in
theorem m_isSort (k : Int32) (mem : pw_M) : Rf 1 mX6_isSort [.int k] mem (some (.int (bI (inR k 6)))) mem := by
  refine Ret.of (by decide) (Nat.le_of_ble_eq_true rfl) fun l G => ?_
  show PW _ _ _ _ [(0, _)] _ _ _
  refine PW.iload_n rfl rfl dX6_isSort_0 ?_
  refine PW.i2l dX6_isSort_1 ?_
  refine PW.lconst (v := 0) (by decide) dX6_isSort_2 ?_
  refine PW.ldc2 cX6_199 dX6_isSort_3 ?_
  refine PW.cS _ kX6_82 (m_in k.toInt64 0 5 mem) rfl rfl (Nat.le_of_ble_eq_true rfl) ⟨by decide, by decide⟩ ⟨Nat.zero_le _, Nat.zero_le _⟩ dX6_isSort_6 ?_
  refine PW.zret rfl (by first | exact bI_nar _ | rfl) (Nat.le_refl _) (Nat.le_refl _) dX6_isSort_9 ?_
  exact ⟨by rw [rng_m, inR_c (n := 6) (lo := Int64.toInt 0) (hi := Int64.toInt 5) rfl rfl], rfl⟩
set_option maxHeartbeats 4000000 in
theorem m_allowsOwn (hS : St b s sc mem) (hM : MD mem R) (hD : Dat R) {k t : Nat} (hk : k < R 0 0) (ht : t < 6) : Rf 1 mX6_allowsOwn [.ref 95, .int (nI k), .int (nI t)] mem (some (.int (bI (!(R 4 k).testBit t)))) mem := by
  have h6 := hD.1
  have h4 := (hD.2.2.2.1 k hk).2.2.1
  refine Ret.of (by decide) (Nat.le_of_ble_eq_true rfl) fun l G => ?_
  show PW _ _ _ _ [(0, _), (1, _), (2, _)] _ _ _
  refine PW.aload_n rfl rfl dX6_allowsOwn_0 ?_
  refine PW.gR hS.1 (by decide) rfl fX6_13 dX6_allowsOwn_1 ?_
  refine PW.bipush (v := nI 8) (by decide) dX6_allowsOwn_4 ?_
  refine PW.iload_n rfl rfl dX6_allowsOwn_6 ?_
  refine PW.imulN dX6_allowsOwn_7 ?_
  refine PW.iconst (v := nI 1) (by decide) dX6_allowsOwn_8 ?_
  refine PW.iaddN dX6_allowsOwn_9 ?_
  refine PW.aI hS.1 (by decide) rfl (by exact rfl) ⟨by omega, by decide⟩ (by first | exact (hM.2.2.2.1 k hk).2.1 | exact rfl) dX6_allowsOwn_10 ?_
  refine PW.iload_n rfl rfl dX6_allowsOwn_11 ?_
  refine PW.cS _ kX6_165 (m_has (a := R 4 k) (k := t) (by omega) (by omega) mem) rfl rfl (Nat.le_of_ble_eq_true rfl) ⟨by decide, by decide⟩ ⟨Nat.zero_le _, Nat.zero_le _⟩ dX6_allowsOwn_12 ?_
  refine PW.if_neB 22 (by decide) dX6_allowsOwn_15 (fun hc15 => ?_) (fun hc15 => ?_)
  · refine PW.iconst (v := nI 0) (by decide) dX6_allowsOwn_22 ?_
    refine PW.zret rfl (by first | exact bI_nar _ | rfl) (Nat.le_refl _) (Nat.le_refl _) dX6_allowsOwn_23 ?_
    exact ⟨by rw [hc15]; rfl, rfl⟩
  · refine PW.iconst (v := nI 1) (by decide) dX6_allowsOwn_18 ?_
    refine PW.goto 23 (by decide) dX6_allowsOwn_19 ?_
    refine PW.zret rfl (by first | exact bI_nar _ | rfl) (Nat.le_refl _) (Nat.le_refl _) dX6_allowsOwn_23 ?_
    exact ⟨by rw [hc15]; rfl, rfl⟩
set_option maxHeartbeats 4000000 in
theorem m_holds (hS : St b s sc mem) (hM : MD mem R) (hD : Dat R) {a t : Nat} (ha : a < 64) (ht : t < 6) : Rf 2 mX6_holds [.ref 95, .int (nI a), .int (nI t)] mem (some (.int (bI (holdN R a t (R 0 0))))) mem := by
  have h6 := hD.1
  refine Ret.of (by decide) (Nat.le_of_ble_eq_true rfl) fun l G => ?_
  show PW _ _ _ _ [(0, _), (1, _), (2, _)] _ _ _
  refine PW.iconst (v := nI 1) (by decide) dX6_holds_0 ?_
  refine PW.istore_n rfl (by decide) dX6_holds_1 (?_ : PW _ _ _ _ [(0, _), (1, _), (2, _), (3, _)] _ _ _)
  refine PW.iconst (v := nI 0) (by decide) dX6_holds_2 ?_
  refine PW.istore (by decide) dX6_holds_3 (?_ : PW _ _ _ _ [(0, _), (1, _), (2, _), (3, _), (4, _)] _ _ _)
  refine PW.up (fun j => [(0, .ref 95), (1, .int (nI a)), (2, .int (nI t)), (3, .int (bI (holdN R a t j))), (4, .int (nI j))]) (fun _ => mem) (R 0 0) (fun j hj ih => ?_) ?_
  · have eh : holdN R a t (j + 1) = (holdN R a t j && (a.testBit j == lawN R j a t)) := rfl
    have ih2 : ∀ z : Int32, z = bI (holdN R a t (j + 1)) → PW (l, G, mX6_holds, pw_rm 2 0 0, 0, 0) 0 0 5 [(0, .ref 95), (1, .int (nI a)), (2, .int (nI t)), (3, .int z), (4, .int (nI (j + 1)))] [] mem (fun u m1 => u = some (.int (bI (holdN R a t (R 0 0)))) ∧ m1 = mem) := fun z hz => by rw [hz]; exact ih
    obtain ⟨d7, d8, -⟩ := hD.2.2.2.2.1 j (by omega)
    obtain ⟨-, -, -, -, x4, x5, -⟩ := hM.2.2.2.1 j hj
    rcases (show R 7 j = 0 ∨ R 7 j = 1 ∨ R 7 j = 2 by omega) with h7 | h7 | h7
    · have hl : lawN R j a t = !(R 4 j).testBit t := by simp [lawN, h7]
      refine PW.iload rfl dX6_holds_5 ?_
      refine PW.aload_n rfl rfl dX6_holds_7 ?_
      refine PW.gI hS.1 (by decide) rfl (by first | exact hM.1 | exact x4.trans (by rw [h7]) | exact x5 (by omega) | exact rfl) fX6_78 dX6_holds_8 ?_
      refine PW.icmp_geN 124 (by decide) (by first | omega | (split <;> omega)) (by first | omega | (split <;> omega)) dX6_holds_11 (fun hc11 => by exfalso; omega) (fun hc11 => ?_)
      refine PW.aload_n rfl rfl dX6_holds_14 ?_
      refine PW.gR hS.1 (by decide) rfl fX6_13 dX6_holds_15 ?_
      refine PW.bipush (v := nI 8) (by decide) dX6_holds_18 ?_
      refine PW.iload rfl dX6_holds_20 ?_
      refine PW.imulN dX6_holds_22 ?_
      refine PW.iconst (v := nI 4) (by decide) dX6_holds_23 ?_
      refine PW.iaddN dX6_holds_24 ?_
      refine PW.aI hS.1 (by decide) rfl (by exact rfl) ⟨by omega, by decide⟩ (by first | exact hM.1 | exact x4.trans (by rw [h7]) | exact x5 (by omega) | exact rfl) dX6_holds_25 ?_
      refine PW.istore (by decide) dX6_holds_26 (?_ : PW _ _ _ _ [(0, _), (1, _), (2, _), (3, _), (4, _), (5, _)] _ _ _)
      refine PW.iload rfl dX6_holds_28 ?_
      refine PW.if_eqN 56 (by decide) (by decide) dX6_holds_30 (fun _ => ?_) (fun h => absurd h (by decide))
      refine PW.iconst (v := nI 0) (by decide) dX6_holds_56 ?_
      refine PW.istore (by decide) dX6_holds_57 (?_ : PW _ _ _ _ [(0, _), (1, _), (2, _), (3, _), (4, _), (5, _), (6, _)] _ _ _)
      refine PW.iload rfl dX6_holds_59 ?_
      refine PW.if_neN 74 (by decide) (by decide) dX6_holds_61 (fun h => absurd h (by decide)) (fun _ => ?_)
      refine PW.aload_n rfl rfl dX6_holds_64 ?_
      refine PW.iload rfl dX6_holds_65 ?_
      refine PW.iload_n rfl rfl dX6_holds_67 ?_
      refine PW.cV (ci := 6) (j := 0) _ hS.1 (by decide) rfl kX6_169 (m_allowsOwn hS hM hD hj ht) rfl rfl (Nat.le_of_ble_eq_true rfl) rfl ⟨by decide, by decide⟩ ⟨Nat.zero_le _, Nat.zero_le _⟩ dX6_holds_68 ?_
      refine PW.goto 95 (by decide) dX6_holds_71 ?_
      refine PW.istore (by decide) dX6_holds_95 (?_ : PW _ _ _ _ [(0, _), (1, _), (2, _), (3, _), (4, _), (5, _), (6, _), (7, _)] _ _ _)
      refine PW.iload_n rfl rfl dX6_holds_97 ?_
      refine PW.if_eqB 116 (by decide) dX6_holds_98 (fun hc98 => ?_) (fun hc98 => ?_)
      · refine PW.iconst (v := nI 0) (by decide) dX6_holds_116 ?_
        refine PW.istore_n rfl (by decide) dX6_holds_117 (?_ : PW _ _ _ _ [(0, _), (1, _), (2, _), (3, _), (4, _), (5, _), (6, _), (7, _)] _ _ _)
        refine PW.iincN rfl (by decide) dX6_holds_118 (?_ : PW _ _ _ _ [(0, _), (1, _), (2, _), (3, _), (4, _), (5, _), (6, _), (7, _)] _ _ _)
        refine PW.goto 5 (by decide) dX6_holds_121 ?_
        exact PW.drop _ (fun q h => List.mem_of_mem_take (i := 5) h) (ih2 _ (by first | (rw [eh, hc98, Bool.false_and]; rfl) | (rw [eh, hc98, Bool.true_and, hl, beq_false_of_ne hc109]; rfl) | (rw [eh, hc98, Bool.true_and, hl, hc109, beq_self_eq_true]; rfl)))
      · refine PW.iload_n rfl rfl dX6_holds_101 ?_
        refine PW.iload rfl dX6_holds_102 ?_
        refine PW.cS _ kX6_165 (m_has (a := a) (k := j) (by omega) (by omega) mem) rfl rfl (Nat.le_of_ble_eq_true rfl) ⟨by decide, by decide⟩ ⟨Nat.zero_le _, Nat.zero_le _⟩ dX6_holds_104 ?_
        refine PW.iload rfl dX6_holds_107 ?_
        refine PW.icmp_neB 116 (by decide) dX6_holds_109 (fun hc109 => ?_) (fun hc109 => ?_)
        · refine PW.iconst (v := nI 0) (by decide) dX6_holds_116 ?_
          refine PW.istore_n rfl (by decide) dX6_holds_117 (?_ : PW _ _ _ _ [(0, _), (1, _), (2, _), (3, _), (4, _), (5, _), (6, _), (7, _)] _ _ _)
          refine PW.iincN rfl (by decide) dX6_holds_118 (?_ : PW _ _ _ _ [(0, _), (1, _), (2, _), (3, _), (4, _), (5, _), (6, _), (7, _)] _ _ _)
          refine PW.goto 5 (by decide) dX6_holds_121 ?_
          exact PW.drop _ (fun q h => List.mem_of_mem_take (i := 5) h) (ih2 _ (by first | (rw [eh, hc98, Bool.false_and]; rfl) | (rw [eh, hc98, Bool.true_and, hl, beq_false_of_ne hc109]; rfl) | (rw [eh, hc98, Bool.true_and, hl, hc109, beq_self_eq_true]; rfl)))
        · refine PW.iconst (v := nI 1) (by decide) dX6_holds_112 ?_
          refine PW.goto 117 (by decide) dX6_holds_113 ?_
          refine PW.istore_n rfl (by decide) dX6_holds_117 (?_ : PW _ _ _ _ [(0, _), (1, _), (2, _), (3, _), (4, _), (5, _), (6, _), (7, _)] _ _ _)
          refine PW.iincN rfl (by decide) dX6_holds_118 (?_ : PW _ _ _ _ [(0, _), (1, _), (2, _), (3, _), (4, _), (5, _), (6, _), (7, _)] _ _ _)
          refine PW.goto 5 (by decide) dX6_holds_121 ?_
          exact PW.drop _ (fun q h => List.mem_of_mem_take (i := 5) h) (ih2 _ (by first | (rw [eh, hc98, Bool.false_and]; rfl) | (rw [eh, hc98, Bool.true_and, hl, beq_false_of_ne hc109]; rfl) | (rw [eh, hc98, Bool.true_and, hl, hc109, beq_self_eq_true]; rfl)))
    · have hl : lawN R j a t = a.testBit (R 8 j) := by simp [lawN, h7]
      have h8 := d8 (by omega)
      refine PW.iload rfl dX6_holds_5 ?_
      refine PW.aload_n rfl rfl dX6_holds_7 ?_
      refine PW.gI hS.1 (by decide) rfl (by first | exact hM.1 | exact x4.trans (by rw [h7]) | exact x5 (by omega) | exact rfl) fX6_78 dX6_holds_8 ?_
      refine PW.icmp_geN 124 (by decide) (by first | omega | (split <;> omega)) (by first | omega | (split <;> omega)) dX6_holds_11 (fun hc11 => by exfalso; omega) (fun hc11 => ?_)
      refine PW.aload_n rfl rfl dX6_holds_14 ?_
      refine PW.gR hS.1 (by decide) rfl fX6_13 dX6_holds_15 ?_
      refine PW.bipush (v := nI 8) (by decide) dX6_holds_18 ?_
      refine PW.iload rfl dX6_holds_20 ?_
      refine PW.imulN dX6_holds_22 ?_
      refine PW.iconst (v := nI 4) (by decide) dX6_holds_23 ?_
      refine PW.iaddN dX6_holds_24 ?_
      refine PW.aI hS.1 (by decide) rfl (by exact rfl) ⟨by omega, by decide⟩ (by first | exact hM.1 | exact x4.trans (by rw [h7]) | exact x5 (by omega) | exact rfl) dX6_holds_25 ?_
      refine PW.istore (by decide) dX6_holds_26 (?_ : PW _ _ _ _ [(0, _), (1, _), (2, _), (3, _), (4, _), (5, _)] _ _ _)
      refine PW.iload rfl dX6_holds_28 ?_
      refine PW.if_eqN 56 (by decide) (by decide) dX6_holds_30 (fun h => absurd h (by decide)) (fun _ => ?_)
      refine PW.iload_n rfl rfl dX6_holds_33 ?_
      refine PW.aload_n rfl rfl dX6_holds_34 ?_
      refine PW.gR hS.1 (by decide) rfl fX6_13 dX6_holds_35 ?_
      refine PW.bipush (v := nI 8) (by decide) dX6_holds_38 ?_
      refine PW.iload rfl dX6_holds_40 ?_
      refine PW.imulN dX6_holds_42 ?_
      refine PW.iconst (v := nI 5) (by decide) dX6_holds_43 ?_
      refine PW.iaddN dX6_holds_44 ?_
      refine PW.aI hS.1 (by decide) rfl (by exact rfl) ⟨by omega, by decide⟩ (by first | exact hM.1 | exact x4.trans (by rw [h7]) | exact x5 (by omega) | exact rfl) dX6_holds_45 ?_
      refine PW.cS _ kX6_165 (m_has (a := a) (k := R 8 j) (by omega) (by omega) mem) rfl rfl (Nat.le_of_ble_eq_true rfl) ⟨by decide, by decide⟩ ⟨Nat.zero_le _, Nat.zero_le _⟩ dX6_holds_46 ?_
      refine PW.if_eqB 56 (by decide) dX6_holds_49 (fun hc49 => ?_) (fun hc49 => ?_)
      · refine PW.iconst (v := nI 0) (by decide) dX6_holds_56 ?_
        refine PW.istore (by decide) dX6_holds_57 (?_ : PW _ _ _ _ [(0, _), (1, _), (2, _), (3, _), (4, _), (5, _), (6, _)] _ _ _)
        refine PW.iload rfl dX6_holds_59 ?_
        refine PW.if_neN 74 (by decide) (by decide) dX6_holds_61 (fun _ => ?_) (fun h => absurd h (by decide))
        refine PW.iload rfl dX6_holds_74 ?_
        refine PW.iconst (v := nI 1) (by decide) dX6_holds_76 ?_
        refine PW.icmp_neN 85 (by decide) (by decide) (by decide) dX6_holds_77 (fun h => absurd h (by decide)) (fun _ => ?_)
        refine PW.iload rfl dX6_holds_80 ?_
        refine PW.goto 95 (by decide) dX6_holds_82 ?_
        refine PW.istore (by decide) dX6_holds_95 (?_ : PW _ _ _ _ [(0, _), (1, _), (2, _), (3, _), (4, _), (5, _), (6, _), (7, _)] _ _ _)
        refine PW.iload_n rfl rfl dX6_holds_97 ?_
        refine PW.if_eqB 116 (by decide) dX6_holds_98 (fun hc98 => ?_) (fun hc98 => ?_)
        · refine PW.iconst (v := nI 0) (by decide) dX6_holds_116 ?_
          refine PW.istore_n rfl (by decide) dX6_holds_117 (?_ : PW _ _ _ _ [(0, _), (1, _), (2, _), (3, _), (4, _), (5, _), (6, _), (7, _)] _ _ _)
          refine PW.iincN rfl (by decide) dX6_holds_118 (?_ : PW _ _ _ _ [(0, _), (1, _), (2, _), (3, _), (4, _), (5, _), (6, _), (7, _)] _ _ _)
          refine PW.goto 5 (by decide) dX6_holds_121 ?_
          exact PW.drop _ (fun q h => List.mem_of_mem_take (i := 5) h) (ih2 _ (by first | (rw [eh, hc98, Bool.false_and]; rfl) | (rw [eh, hc98, Bool.true_and, hl, hc49, beq_false_of_ne hc109]; rfl) | (rw [eh, hc98, Bool.true_and, hl, hc49, hc109, beq_self_eq_true]; rfl)))
        · refine PW.iload_n rfl rfl dX6_holds_101 ?_
          refine PW.iload rfl dX6_holds_102 ?_
          refine PW.cS _ kX6_165 (m_has (a := a) (k := j) (by omega) (by omega) mem) rfl rfl (Nat.le_of_ble_eq_true rfl) ⟨by decide, by decide⟩ ⟨Nat.zero_le _, Nat.zero_le _⟩ dX6_holds_104 ?_
          refine PW.iload rfl dX6_holds_107 ?_
          refine PW.icmp_neB (c := false) 116 (by decide) dX6_holds_109 (fun hc109 => ?_) (fun hc109 => ?_)
          · refine PW.iconst (v := nI 0) (by decide) dX6_holds_116 ?_
            refine PW.istore_n rfl (by decide) dX6_holds_117 (?_ : PW _ _ _ _ [(0, _), (1, _), (2, _), (3, _), (4, _), (5, _), (6, _), (7, _)] _ _ _)
            refine PW.iincN rfl (by decide) dX6_holds_118 (?_ : PW _ _ _ _ [(0, _), (1, _), (2, _), (3, _), (4, _), (5, _), (6, _), (7, _)] _ _ _)
            refine PW.goto 5 (by decide) dX6_holds_121 ?_
            exact PW.drop _ (fun q h => List.mem_of_mem_take (i := 5) h) (ih2 _ (by first | (rw [eh, hc98, Bool.false_and]; rfl) | (rw [eh, hc98, Bool.true_and, hl, hc49, beq_false_of_ne hc109]; rfl) | (rw [eh, hc98, Bool.true_and, hl, hc49, hc109, beq_self_eq_true]; rfl)))
          · refine PW.iconst (v := nI 1) (by decide) dX6_holds_112 ?_
            refine PW.goto 117 (by decide) dX6_holds_113 ?_
            refine PW.istore_n rfl (by decide) dX6_holds_117 (?_ : PW _ _ _ _ [(0, _), (1, _), (2, _), (3, _), (4, _), (5, _), (6, _), (7, _)] _ _ _)
            refine PW.iincN rfl (by decide) dX6_holds_118 (?_ : PW _ _ _ _ [(0, _), (1, _), (2, _), (3, _), (4, _), (5, _), (6, _), (7, _)] _ _ _)
            refine PW.goto 5 (by decide) dX6_holds_121 ?_
            exact PW.drop _ (fun q h => List.mem_of_mem_take (i := 5) h) (ih2 _ (by first | (rw [eh, hc98, Bool.false_and]; rfl) | (rw [eh, hc98, Bool.true_and, hl, hc49, beq_false_of_ne hc109]; rfl) | (rw [eh, hc98, Bool.true_and, hl, hc49, hc109, beq_self_eq_true]; rfl)))
      · refine PW.iconst (v := nI 1) (by decide) dX6_holds_52 ?_
        refine PW.goto 57 (by decide) dX6_holds_53 ?_
        refine PW.istore (by decide) dX6_holds_57 (?_ : PW _ _ _ _ [(0, _), (1, _), (2, _), (3, _), (4, _), (5, _), (6, _)] _ _ _)
        refine PW.iload rfl dX6_holds_59 ?_
        refine PW.if_neN 74 (by decide) (by decide) dX6_holds_61 (fun _ => ?_) (fun h => absurd h (by decide))
        refine PW.iload rfl dX6_holds_74 ?_
        refine PW.iconst (v := nI 1) (by decide) dX6_holds_76 ?_
        refine PW.icmp_neN 85 (by decide) (by decide) (by decide) dX6_holds_77 (fun h => absurd h (by decide)) (fun _ => ?_)
        refine PW.iload rfl dX6_holds_80 ?_
        refine PW.goto 95 (by decide) dX6_holds_82 ?_
        refine PW.istore (by decide) dX6_holds_95 (?_ : PW _ _ _ _ [(0, _), (1, _), (2, _), (3, _), (4, _), (5, _), (6, _), (7, _)] _ _ _)
        refine PW.iload_n rfl rfl dX6_holds_97 ?_
        refine PW.if_eqB 116 (by decide) dX6_holds_98 (fun hc98 => ?_) (fun hc98 => ?_)
        · refine PW.iconst (v := nI 0) (by decide) dX6_holds_116 ?_
          refine PW.istore_n rfl (by decide) dX6_holds_117 (?_ : PW _ _ _ _ [(0, _), (1, _), (2, _), (3, _), (4, _), (5, _), (6, _), (7, _)] _ _ _)
          refine PW.iincN rfl (by decide) dX6_holds_118 (?_ : PW _ _ _ _ [(0, _), (1, _), (2, _), (3, _), (4, _), (5, _), (6, _), (7, _)] _ _ _)
          refine PW.goto 5 (by decide) dX6_holds_121 ?_
          exact PW.drop _ (fun q h => List.mem_of_mem_take (i := 5) h) (ih2 _ (by first | (rw [eh, hc98, Bool.false_and]; rfl) | (rw [eh, hc98, Bool.true_and, hl, hc49, beq_false_of_ne hc109]; rfl) | (rw [eh, hc98, Bool.true_and, hl, hc49, hc109, beq_self_eq_true]; rfl)))
        · refine PW.iload_n rfl rfl dX6_holds_101 ?_
          refine PW.iload rfl dX6_holds_102 ?_
          refine PW.cS _ kX6_165 (m_has (a := a) (k := j) (by omega) (by omega) mem) rfl rfl (Nat.le_of_ble_eq_true rfl) ⟨by decide, by decide⟩ ⟨Nat.zero_le _, Nat.zero_le _⟩ dX6_holds_104 ?_
          refine PW.iload rfl dX6_holds_107 ?_
          refine PW.icmp_neB (c := true) 116 (by decide) dX6_holds_109 (fun hc109 => ?_) (fun hc109 => ?_)
          · refine PW.iconst (v := nI 0) (by decide) dX6_holds_116 ?_
            refine PW.istore_n rfl (by decide) dX6_holds_117 (?_ : PW _ _ _ _ [(0, _), (1, _), (2, _), (3, _), (4, _), (5, _), (6, _), (7, _)] _ _ _)
            refine PW.iincN rfl (by decide) dX6_holds_118 (?_ : PW _ _ _ _ [(0, _), (1, _), (2, _), (3, _), (4, _), (5, _), (6, _), (7, _)] _ _ _)
            refine PW.goto 5 (by decide) dX6_holds_121 ?_
            exact PW.drop _ (fun q h => List.mem_of_mem_take (i := 5) h) (ih2 _ (by first | (rw [eh, hc98, Bool.false_and]; rfl) | (rw [eh, hc98, Bool.true_and, hl, hc49, beq_false_of_ne hc109]; rfl) | (rw [eh, hc98, Bool.true_and, hl, hc49, hc109, beq_self_eq_true]; rfl)))
          · refine PW.iconst (v := nI 1) (by decide) dX6_holds_112 ?_
            refine PW.goto 117 (by decide) dX6_holds_113 ?_
            refine PW.istore_n rfl (by decide) dX6_holds_117 (?_ : PW _ _ _ _ [(0, _), (1, _), (2, _), (3, _), (4, _), (5, _), (6, _), (7, _)] _ _ _)
            refine PW.iincN rfl (by decide) dX6_holds_118 (?_ : PW _ _ _ _ [(0, _), (1, _), (2, _), (3, _), (4, _), (5, _), (6, _), (7, _)] _ _ _)
            refine PW.goto 5 (by decide) dX6_holds_121 ?_
            exact PW.drop _ (fun q h => List.mem_of_mem_take (i := 5) h) (ih2 _ (by first | (rw [eh, hc98, Bool.false_and]; rfl) | (rw [eh, hc98, Bool.true_and, hl, hc49, beq_false_of_ne hc109]; rfl) | (rw [eh, hc98, Bool.true_and, hl, hc49, hc109, beq_self_eq_true]; rfl)))
    · have hl : lawN R j a t = !a.testBit (R 8 j) := by simp [lawN, h7]
      have h8 := d8 (by omega)
      refine PW.iload rfl dX6_holds_5 ?_
      refine PW.aload_n rfl rfl dX6_holds_7 ?_
      refine PW.gI hS.1 (by decide) rfl (by first | exact hM.1 | exact x4.trans (by rw [h7]) | exact x5 (by omega) | exact rfl) fX6_78 dX6_holds_8 ?_
      refine PW.icmp_geN 124 (by decide) (by first | omega | (split <;> omega)) (by first | omega | (split <;> omega)) dX6_holds_11 (fun hc11 => by exfalso; omega) (fun hc11 => ?_)
      refine PW.aload_n rfl rfl dX6_holds_14 ?_
      refine PW.gR hS.1 (by decide) rfl fX6_13 dX6_holds_15 ?_
      refine PW.bipush (v := nI 8) (by decide) dX6_holds_18 ?_
      refine PW.iload rfl dX6_holds_20 ?_
      refine PW.imulN dX6_holds_22 ?_
      refine PW.iconst (v := nI 4) (by decide) dX6_holds_23 ?_
      refine PW.iaddN dX6_holds_24 ?_
      refine PW.aI hS.1 (by decide) rfl (by exact rfl) ⟨by omega, by decide⟩ (by first | exact hM.1 | exact x4.trans (by rw [h7]) | exact x5 (by omega) | exact rfl) dX6_holds_25 ?_
      refine PW.istore (by decide) dX6_holds_26 (?_ : PW _ _ _ _ [(0, _), (1, _), (2, _), (3, _), (4, _), (5, _)] _ _ _)
      refine PW.iload rfl dX6_holds_28 ?_
      refine PW.if_eqN 56 (by decide) (by decide) dX6_holds_30 (fun h => absurd h (by decide)) (fun _ => ?_)
      refine PW.iload_n rfl rfl dX6_holds_33 ?_
      refine PW.aload_n rfl rfl dX6_holds_34 ?_
      refine PW.gR hS.1 (by decide) rfl fX6_13 dX6_holds_35 ?_
      refine PW.bipush (v := nI 8) (by decide) dX6_holds_38 ?_
      refine PW.iload rfl dX6_holds_40 ?_
      refine PW.imulN dX6_holds_42 ?_
      refine PW.iconst (v := nI 5) (by decide) dX6_holds_43 ?_
      refine PW.iaddN dX6_holds_44 ?_
      refine PW.aI hS.1 (by decide) rfl (by exact rfl) ⟨by omega, by decide⟩ (by first | exact hM.1 | exact x4.trans (by rw [h7]) | exact x5 (by omega) | exact rfl) dX6_holds_45 ?_
      refine PW.cS _ kX6_165 (m_has (a := a) (k := R 8 j) (by omega) (by omega) mem) rfl rfl (Nat.le_of_ble_eq_true rfl) ⟨by decide, by decide⟩ ⟨Nat.zero_le _, Nat.zero_le _⟩ dX6_holds_46 ?_
      refine PW.if_eqB 56 (by decide) dX6_holds_49 (fun hc49 => ?_) (fun hc49 => ?_)
      · refine PW.iconst (v := nI 0) (by decide) dX6_holds_56 ?_
        refine PW.istore (by decide) dX6_holds_57 (?_ : PW _ _ _ _ [(0, _), (1, _), (2, _), (3, _), (4, _), (5, _), (6, _)] _ _ _)
        refine PW.iload rfl dX6_holds_59 ?_
        refine PW.if_neN 74 (by decide) (by decide) dX6_holds_61 (fun _ => ?_) (fun h => absurd h (by decide))
        refine PW.iload rfl dX6_holds_74 ?_
        refine PW.iconst (v := nI 1) (by decide) dX6_holds_76 ?_
        refine PW.icmp_neN 85 (by decide) (by decide) (by decide) dX6_holds_77 (fun _ => ?_) (fun h => absurd h (by decide))
        refine PW.iload rfl dX6_holds_85 ?_
        refine PW.if_neN 94 (by decide) (by decide) dX6_holds_87 (fun h => absurd h (by decide)) (fun _ => ?_)
        refine PW.iconst (v := nI 1) (by decide) dX6_holds_90 ?_
        refine PW.goto 95 (by decide) dX6_holds_91 ?_
        refine PW.istore (by decide) dX6_holds_95 (?_ : PW _ _ _ _ [(0, _), (1, _), (2, _), (3, _), (4, _), (5, _), (6, _), (7, _)] _ _ _)
        refine PW.iload_n rfl rfl dX6_holds_97 ?_
        refine PW.if_eqB 116 (by decide) dX6_holds_98 (fun hc98 => ?_) (fun hc98 => ?_)
        · refine PW.iconst (v := nI 0) (by decide) dX6_holds_116 ?_
          refine PW.istore_n rfl (by decide) dX6_holds_117 (?_ : PW _ _ _ _ [(0, _), (1, _), (2, _), (3, _), (4, _), (5, _), (6, _), (7, _)] _ _ _)
          refine PW.iincN rfl (by decide) dX6_holds_118 (?_ : PW _ _ _ _ [(0, _), (1, _), (2, _), (3, _), (4, _), (5, _), (6, _), (7, _)] _ _ _)
          refine PW.goto 5 (by decide) dX6_holds_121 ?_
          exact PW.drop _ (fun q h => List.mem_of_mem_take (i := 5) h) (ih2 _ (by first | (rw [eh, hc98, Bool.false_and]; rfl) | (rw [eh, hc98, Bool.true_and, hl, hc49, Bool.not_true, beq_false_of_ne hc109]; rfl) | (rw [eh, hc98, Bool.true_and, hl, hc49, Bool.not_false, beq_false_of_ne hc109]; rfl) | (rw [eh, hc98, Bool.true_and, hl, hc49, hc109]; rfl)))
        · refine PW.iload_n rfl rfl dX6_holds_101 ?_
          refine PW.iload rfl dX6_holds_102 ?_
          refine PW.cS _ kX6_165 (m_has (a := a) (k := j) (by omega) (by omega) mem) rfl rfl (Nat.le_of_ble_eq_true rfl) ⟨by decide, by decide⟩ ⟨Nat.zero_le _, Nat.zero_le _⟩ dX6_holds_104 ?_
          refine PW.iload rfl dX6_holds_107 ?_
          refine PW.icmp_neB (c := true) 116 (by decide) dX6_holds_109 (fun hc109 => ?_) (fun hc109 => ?_)
          · refine PW.iconst (v := nI 0) (by decide) dX6_holds_116 ?_
            refine PW.istore_n rfl (by decide) dX6_holds_117 (?_ : PW _ _ _ _ [(0, _), (1, _), (2, _), (3, _), (4, _), (5, _), (6, _), (7, _)] _ _ _)
            refine PW.iincN rfl (by decide) dX6_holds_118 (?_ : PW _ _ _ _ [(0, _), (1, _), (2, _), (3, _), (4, _), (5, _), (6, _), (7, _)] _ _ _)
            refine PW.goto 5 (by decide) dX6_holds_121 ?_
            exact PW.drop _ (fun q h => List.mem_of_mem_take (i := 5) h) (ih2 _ (by first | (rw [eh, hc98, Bool.false_and]; rfl) | (rw [eh, hc98, Bool.true_and, hl, hc49, Bool.not_true, beq_false_of_ne hc109]; rfl) | (rw [eh, hc98, Bool.true_and, hl, hc49, Bool.not_false, beq_false_of_ne hc109]; rfl) | (rw [eh, hc98, Bool.true_and, hl, hc49, hc109]; rfl)))
          · refine PW.iconst (v := nI 1) (by decide) dX6_holds_112 ?_
            refine PW.goto 117 (by decide) dX6_holds_113 ?_
            refine PW.istore_n rfl (by decide) dX6_holds_117 (?_ : PW _ _ _ _ [(0, _), (1, _), (2, _), (3, _), (4, _), (5, _), (6, _), (7, _)] _ _ _)
            refine PW.iincN rfl (by decide) dX6_holds_118 (?_ : PW _ _ _ _ [(0, _), (1, _), (2, _), (3, _), (4, _), (5, _), (6, _), (7, _)] _ _ _)
            refine PW.goto 5 (by decide) dX6_holds_121 ?_
            exact PW.drop _ (fun q h => List.mem_of_mem_take (i := 5) h) (ih2 _ (by first | (rw [eh, hc98, Bool.false_and]; rfl) | (rw [eh, hc98, Bool.true_and, hl, hc49, Bool.not_true, beq_false_of_ne hc109]; rfl) | (rw [eh, hc98, Bool.true_and, hl, hc49, Bool.not_false, beq_false_of_ne hc109]; rfl) | (rw [eh, hc98, Bool.true_and, hl, hc49, hc109]; rfl)))
      · refine PW.iconst (v := nI 1) (by decide) dX6_holds_52 ?_
        refine PW.goto 57 (by decide) dX6_holds_53 ?_
        refine PW.istore (by decide) dX6_holds_57 (?_ : PW _ _ _ _ [(0, _), (1, _), (2, _), (3, _), (4, _), (5, _), (6, _)] _ _ _)
        refine PW.iload rfl dX6_holds_59 ?_
        refine PW.if_neN 74 (by decide) (by decide) dX6_holds_61 (fun _ => ?_) (fun h => absurd h (by decide))
        refine PW.iload rfl dX6_holds_74 ?_
        refine PW.iconst (v := nI 1) (by decide) dX6_holds_76 ?_
        refine PW.icmp_neN 85 (by decide) (by decide) (by decide) dX6_holds_77 (fun _ => ?_) (fun h => absurd h (by decide))
        refine PW.iload rfl dX6_holds_85 ?_
        refine PW.if_neN 94 (by decide) (by decide) dX6_holds_87 (fun _ => ?_) (fun h => absurd h (by decide))
        refine PW.iconst (v := nI 0) (by decide) dX6_holds_94 ?_
        refine PW.istore (by decide) dX6_holds_95 (?_ : PW _ _ _ _ [(0, _), (1, _), (2, _), (3, _), (4, _), (5, _), (6, _), (7, _)] _ _ _)
        refine PW.iload_n rfl rfl dX6_holds_97 ?_
        refine PW.if_eqB 116 (by decide) dX6_holds_98 (fun hc98 => ?_) (fun hc98 => ?_)
        · refine PW.iconst (v := nI 0) (by decide) dX6_holds_116 ?_
          refine PW.istore_n rfl (by decide) dX6_holds_117 (?_ : PW _ _ _ _ [(0, _), (1, _), (2, _), (3, _), (4, _), (5, _), (6, _), (7, _)] _ _ _)
          refine PW.iincN rfl (by decide) dX6_holds_118 (?_ : PW _ _ _ _ [(0, _), (1, _), (2, _), (3, _), (4, _), (5, _), (6, _), (7, _)] _ _ _)
          refine PW.goto 5 (by decide) dX6_holds_121 ?_
          exact PW.drop _ (fun q h => List.mem_of_mem_take (i := 5) h) (ih2 _ (by first | (rw [eh, hc98, Bool.false_and]; rfl) | (rw [eh, hc98, Bool.true_and, hl, hc49, Bool.not_true, beq_false_of_ne hc109]; rfl) | (rw [eh, hc98, Bool.true_and, hl, hc49, Bool.not_false, beq_false_of_ne hc109]; rfl) | (rw [eh, hc98, Bool.true_and, hl, hc49, hc109]; rfl)))
        · refine PW.iload_n rfl rfl dX6_holds_101 ?_
          refine PW.iload rfl dX6_holds_102 ?_
          refine PW.cS _ kX6_165 (m_has (a := a) (k := j) (by omega) (by omega) mem) rfl rfl (Nat.le_of_ble_eq_true rfl) ⟨by decide, by decide⟩ ⟨Nat.zero_le _, Nat.zero_le _⟩ dX6_holds_104 ?_
          refine PW.iload rfl dX6_holds_107 ?_
          refine PW.icmp_neB (c := false) 116 (by decide) dX6_holds_109 (fun hc109 => ?_) (fun hc109 => ?_)
          · refine PW.iconst (v := nI 0) (by decide) dX6_holds_116 ?_
            refine PW.istore_n rfl (by decide) dX6_holds_117 (?_ : PW _ _ _ _ [(0, _), (1, _), (2, _), (3, _), (4, _), (5, _), (6, _), (7, _)] _ _ _)
            refine PW.iincN rfl (by decide) dX6_holds_118 (?_ : PW _ _ _ _ [(0, _), (1, _), (2, _), (3, _), (4, _), (5, _), (6, _), (7, _)] _ _ _)
            refine PW.goto 5 (by decide) dX6_holds_121 ?_
            exact PW.drop _ (fun q h => List.mem_of_mem_take (i := 5) h) (ih2 _ (by first | (rw [eh, hc98, Bool.false_and]; rfl) | (rw [eh, hc98, Bool.true_and, hl, hc49, Bool.not_true, beq_false_of_ne hc109]; rfl) | (rw [eh, hc98, Bool.true_and, hl, hc49, Bool.not_false, beq_false_of_ne hc109]; rfl) | (rw [eh, hc98, Bool.true_and, hl, hc49, hc109]; rfl)))
          · refine PW.iconst (v := nI 1) (by decide) dX6_holds_112 ?_
            refine PW.goto 117 (by decide) dX6_holds_113 ?_
            refine PW.istore_n rfl (by decide) dX6_holds_117 (?_ : PW _ _ _ _ [(0, _), (1, _), (2, _), (3, _), (4, _), (5, _), (6, _), (7, _)] _ _ _)
            refine PW.iincN rfl (by decide) dX6_holds_118 (?_ : PW _ _ _ _ [(0, _), (1, _), (2, _), (3, _), (4, _), (5, _), (6, _), (7, _)] _ _ _)
            refine PW.goto 5 (by decide) dX6_holds_121 ?_
            exact PW.drop _ (fun q h => List.mem_of_mem_take (i := 5) h) (ih2 _ (by first | (rw [eh, hc98, Bool.false_and]; rfl) | (rw [eh, hc98, Bool.true_and, hl, hc49, Bool.not_true, beq_false_of_ne hc109]; rfl) | (rw [eh, hc98, Bool.true_and, hl, hc49, Bool.not_false, beq_false_of_ne hc109]; rfl) | (rw [eh, hc98, Bool.true_and, hl, hc49, hc109]; rfl)))
  · refine PW.iload rfl dX6_holds_5 ?_
    refine PW.aload_n rfl rfl dX6_holds_7 ?_
    refine PW.gI hS.1 (by decide) rfl (by first | exact hM.1 | exact rfl) fX6_78 dX6_holds_8 ?_
    refine PW.icmp_geN 124 (by decide) (by first | omega | (split <;> omega)) (by first | omega | (split <;> omega)) dX6_holds_11 (fun hc11 => ?_) (fun hc11 => by exfalso; omega)
    refine PW.iload_n rfl rfl dX6_holds_124 ?_
    refine PW.zret rfl (by first | exact bI_nar _ | rfl) (Nat.le_refl _) (Nat.le_refl _) dX6_holds_125 ?_
    exact ⟨rfl, rfl⟩
set_option maxHeartbeats 4000000 in
theorem m_fixedOf (hS : St b s sc mem) (hM : MD mem R) (hD : Dat R) {t : Nat} (ht : t < 6) : Rf 3 mX6_fixedOf [.ref 95, .int (nI t)] mem (some (.int (nI (fixN R t (2 ^ R 0 0))))) mem := by
  have h6 := hD.1
  have hp := pow6 h6
  refine Ret.of (by decide) (Nat.le_of_ble_eq_true rfl) fun l G => ?_
  show PW _ _ _ _ [(0, _), (1, _)] _ _ _
  refine PW.iconst (v := nI 0) (by decide) dX6_fixedOf_0 ?_
  refine PW.istore_n rfl (by decide) dX6_fixedOf_1 (?_ : PW _ _ _ _ [(0, _), (1, _), (2, _)] _ _ _)
  refine PW.iconst (v := nI 0) (by decide) dX6_fixedOf_2 ?_
  refine PW.istore_n rfl (by decide) dX6_fixedOf_3 (?_ : PW _ _ _ _ [(0, _), (1, _), (2, _), (3, _)] _ _ _)
  refine PW.up (fun j => [(0, .ref 95), (1, .int (nI t)), (2, .int (nI (fixN R t j))), (3, .int (nI j))]) (fun _ => mem) (2 ^ R 0 0) (fun j hj ih => ?_) ?_
  · have ef : fixN R t (j + 1) = fixN R t j + if holdN R j t (R 0 0) then 1 else 0 := rfl
    refine PW.iload_n rfl rfl dX6_fixedOf_4 ?_
    refine PW.iconst (v := nI 1) (by decide) dX6_fixedOf_5 ?_
    refine PW.aload_n rfl rfl dX6_fixedOf_6 ?_
    refine PW.gI hS.1 (by decide) rfl (by first | exact hM.1 | exact rfl) fX6_78 dX6_fixedOf_7 ?_
    refine PW.ishl1 (by omega) dX6_fixedOf_10 ?_
    refine PW.icmp_geN 37 (by decide) (by first | omega | (split <;> omega)) (by first | omega | (split <;> omega)) dX6_fixedOf_11 (fun hc11 => by exfalso; omega) (fun hc11 => ?_)
    refine PW.iload_n rfl rfl dX6_fixedOf_14 ?_
    refine PW.aload_n rfl rfl dX6_fixedOf_15 ?_
    refine PW.iload_n rfl rfl dX6_fixedOf_16 ?_
    refine PW.iload_n rfl rfl dX6_fixedOf_17 ?_
    refine PW.cV (ci := 6) (j := 0) _ hS.1 (by decide) rfl kX6_172 (m_holds hS hM hD (a := j) (by omega) ht) rfl rfl (Nat.le_of_ble_eq_true rfl) rfl ⟨by decide, by decide⟩ ⟨Nat.zero_le _, Nat.zero_le _⟩ dX6_fixedOf_18 ?_
    refine PW.if_eqB 28 (by decide) dX6_fixedOf_21 (fun hc21 => ?_) (fun hc21 => ?_)
    · refine PW.iconst (v := nI 0) (by decide) dX6_fixedOf_28 ?_
      refine PW.iaddN dX6_fixedOf_29 ?_
      refine PW.istore_n rfl (by decide) dX6_fixedOf_30 (?_ : PW _ _ _ _ [(0, _), (1, _), (2, _), (3, _)] _ _ _)
      refine PW.iincN rfl (by decide) dX6_fixedOf_31 (?_ : PW _ _ _ _ [(0, _), (1, _), (2, _), (3, _)] _ _ _)
      refine PW.goto 4 (by decide) dX6_fixedOf_34 ?_
      rw [ef, hc21] at ih
      exact ih
    · refine PW.iconst (v := nI 1) (by decide) dX6_fixedOf_24 ?_
      refine PW.goto 29 (by decide) dX6_fixedOf_25 ?_
      refine PW.iaddN dX6_fixedOf_29 ?_
      refine PW.istore_n rfl (by decide) dX6_fixedOf_30 (?_ : PW _ _ _ _ [(0, _), (1, _), (2, _), (3, _)] _ _ _)
      refine PW.iincN rfl (by decide) dX6_fixedOf_31 (?_ : PW _ _ _ _ [(0, _), (1, _), (2, _), (3, _)] _ _ _)
      refine PW.goto 4 (by decide) dX6_fixedOf_34 ?_
      rw [ef, hc21] at ih
      exact ih
  · refine PW.iload_n rfl rfl dX6_fixedOf_4 ?_
    refine PW.iconst (v := nI 1) (by decide) dX6_fixedOf_5 ?_
    refine PW.aload_n rfl rfl dX6_fixedOf_6 ?_
    refine PW.gI hS.1 (by decide) rfl (by first | exact hM.1 | exact rfl) fX6_78 dX6_fixedOf_7 ?_
    refine PW.ishl1 (by omega) dX6_fixedOf_10 ?_
    refine PW.icmp_geN 37 (by decide) (by first | omega | (split <;> omega)) (by first | omega | (split <;> omega)) dX6_fixedOf_11 (fun hc11 => ?_) (fun hc11 => by exfalso; omega)
    refine PW.iload_n rfl rfl dX6_fixedOf_37 ?_
    refine PW.iret rfl (Nat.le_refl _) (Nat.le_refl _) dX6_fixedOf_38 ?_
    exact ⟨rfl, rfl⟩
set_option maxHeartbeats 8000000 in
theorem m_letting (hS : St b s sc mem) (hM : MD mem R) (hD : Dat R) {t : Nat} (ht : t < 6) : Rf 4 mX6_letting [.ref 95, .int (nI t)] mem (some (.int (nI (pockN R t (R 0 0))))) mem := by
  have h6 := hD.1
  have hp := pow6 h6
  have hfl := fixN_le R t (2 ^ R 0 0)
  refine Ret.of (by decide) (Nat.le_of_ble_eq_true rfl) fun l G => ?_
  show PW _ _ _ _ [(0, _), (1, _)] _ _ _
  have h23 : ∀ z : Nat → Nat, (∀ j, j < 2 ^ R 0 0 → z (j + 1) = if holdN R j t (R 0 0) then z j &&& j else z j) → z (2 ^ R 0 0) ≤ 63 → (∀ k, k < R 0 0 → letN R k t = ((z (2 ^ R 0 0)).testBit k && (decide (R 6 k = 9) || letN R (R 6 k) t))) → PW (l, G, mX6_letting, pw_rm 4 0 0, 0, 0) 0 0 23 [(0, .ref 95), (1, .int (nI t)), (2, .int (nI (z 0))), (3, .int (nI 0))] [] mem (fun u m1 => u = some (.int (nI (pockN R t (R 0 0)))) ∧ m1 = mem) := by
    intro z hz hz63 hlet
    refine PW.up (fun j => [(0, .ref 95), (1, .int (nI t)), (2, .int (nI (z j))), (3, .int (nI j))]) (fun _ => mem) (2 ^ R 0 0) (fun j hj ih => ?_) ?_
    · have ez := hz j hj
      refine PW.iload_n rfl rfl dX6_letting_23 ?_
      refine PW.iconst (v := nI 1) (by decide) dX6_letting_24 ?_
      refine PW.aload_n rfl rfl dX6_letting_25 ?_
      refine PW.gI hS.1 (by decide) rfl (by first | exact hM.1 | exact rfl) fX6_78 dX6_letting_26 ?_
      refine PW.ishl1 (by omega) dX6_letting_29 ?_
      refine PW.icmp_geN 56 (by decide) (by first | omega | (split <;> omega)) (by first | omega | (split <;> omega)) dX6_letting_30 (fun hc30 => by exfalso; omega) (fun hc30 => ?_)
      refine PW.iload_n rfl rfl dX6_letting_33 ?_
      refine PW.aload_n rfl rfl dX6_letting_34 ?_
      refine PW.iload_n rfl rfl dX6_letting_35 ?_
      refine PW.iload_n rfl rfl dX6_letting_36 ?_
      refine PW.cV (ci := 6) (j := 0) _ hS.1 (by decide) rfl kX6_172 (m_holds hS hM hD (a := j) (by omega) ht) rfl rfl (Nat.le_of_ble_eq_true rfl) rfl ⟨by decide, by decide⟩ ⟨Nat.zero_le _, Nat.zero_le _⟩ dX6_letting_37 ?_
      refine PW.if_eqB 47 (by decide) dX6_letting_40 (fun hc40 => ?_) (fun hc40 => ?_)
      · refine PW.iconst (v := -1) (by decide) dX6_letting_47 ?_
        refine PW.iandM dX6_letting_48 ?_
        refine PW.istore_n rfl (by decide) dX6_letting_49 (?_ : PW _ _ _ _ [(0, _), (1, _), (2, _), (3, _)] _ _ _)
        refine PW.iincN rfl (by decide) dX6_letting_50 (?_ : PW _ _ _ _ [(0, _), (1, _), (2, _), (3, _)] _ _ _)
        refine PW.goto 23 (by decide) dX6_letting_53 ?_
        rw [ez, hc40] at ih
        exact ih
      · refine PW.iload_n rfl rfl dX6_letting_43 ?_
        refine PW.goto 48 (by decide) dX6_letting_44 ?_
        refine PW.iandN dX6_letting_48 ?_
        refine PW.istore_n rfl (by decide) dX6_letting_49 (?_ : PW _ _ _ _ [(0, _), (1, _), (2, _), (3, _)] _ _ _)
        refine PW.iincN rfl (by decide) dX6_letting_50 (?_ : PW _ _ _ _ [(0, _), (1, _), (2, _), (3, _)] _ _ _)
        refine PW.goto 23 (by decide) dX6_letting_53 ?_
        rw [ez, hc40] at ih
        exact ih
    · refine PW.iload_n rfl rfl dX6_letting_23 ?_
      refine PW.iconst (v := nI 1) (by decide) dX6_letting_24 ?_
      refine PW.aload_n rfl rfl dX6_letting_25 ?_
      refine PW.gI hS.1 (by decide) rfl (by first | exact hM.1 | exact rfl) fX6_78 dX6_letting_26 ?_
      refine PW.ishl1 (by omega) dX6_letting_29 ?_
      refine PW.icmp_geN 56 (by decide) (by first | omega | (split <;> omega)) (by first | omega | (split <;> omega)) dX6_letting_30 (fun hc30 => ?_) (fun hc30 => by exfalso; omega)
      refine PW.iconst (v := nI 0) (by decide) dX6_letting_56 ?_
      refine PW.istore_n rfl (by decide) dX6_letting_57 (?_ : PW _ _ _ _ [(0, _), (1, _), (2, _), (3, _)] _ _ _)
      refine PW.iconst (v := nI 0) (by decide) dX6_letting_58 ?_
      refine PW.istore (by decide) dX6_letting_59 (?_ : PW _ _ _ _ [(0, _), (1, _), (2, _), (3, _), (4, _)] _ _ _)
      skip
      generalize z (2 ^ R 0 0) = al at hz63 hlet ⊢
      refine PW.up (fun j => [(0, .ref 95), (1, .int (nI t)), (2, .int (nI al)), (3, .int (nI (pockN R t j))), (4, .int (nI j))]) (fun _ => mem) (R 0 0) (fun j hj ih => ?_) ?_
      · have ep : pockN R t (j + 1) = if letN R j t then pockN R t j ||| 2 ^ j else pockN R t j := rfl
        have hlj := hlet j hj
        have hpl := pockN_lt R t j
        have hpj : 2 ^ j ≤ 64 := Nat.le_trans (Nat.pow_le_pow_right (by decide) (show j ≤ 6 by omega)) (by decide)
        have h9 := (hD.2.2.2.1 j hj).2.2.2.2
        have hpb := pockN_bit R t j (R 6 j)
        refine PW.iload rfl dX6_letting_61 ?_
        refine PW.aload_n rfl rfl dX6_letting_63 ?_
        refine PW.gI hS.1 (by decide) rfl (by first | exact hM.1 | exact (hM.2.2.2.1 j hj).2.2.2.1 | exact rfl) fX6_78 dX6_letting_64 ?_
        refine PW.icmp_geN 126 (by decide) (by first | omega | (split <;> omega)) (by first | omega | (split <;> omega)) dX6_letting_67 (fun hc67 => by exfalso; omega) (fun hc67 => ?_)
        refine PW.aload_n rfl rfl dX6_letting_70 ?_
        refine PW.gR hS.1 (by decide) rfl fX6_13 dX6_letting_71 ?_
        refine PW.bipush (v := nI 8) (by decide) dX6_letting_74 ?_
        refine PW.iload rfl dX6_letting_76 ?_
        refine PW.imulN dX6_letting_78 ?_
        refine PW.iconst (v := nI 3) (by decide) dX6_letting_79 ?_
        refine PW.iaddN dX6_letting_80 ?_
        refine PW.aI hS.1 (by decide) rfl (by exact rfl) ⟨by omega, by decide⟩ (by first | exact hM.1 | exact (hM.2.2.2.1 j hj).2.2.2.1 | exact rfl) dX6_letting_81 ?_
        refine PW.istore (by decide) dX6_letting_82 (?_ : PW _ _ _ _ [(0, _), (1, _), (2, _), (3, _), (4, _), (5, _)] _ _ _)
        refine PW.iload_n rfl rfl dX6_letting_84 ?_
        refine PW.iload_n rfl rfl dX6_letting_85 ?_
        refine PW.iload rfl dX6_letting_86 ?_
        refine PW.cS _ kX6_165 (m_has (a := al) (k := j) (by omega) (by omega) mem) rfl rfl (Nat.le_of_ble_eq_true rfl) ⟨by decide, by decide⟩ ⟨Nat.zero_le _, Nat.zero_le _⟩ dX6_letting_88 ?_
        refine PW.if_eqB 117 (by decide) dX6_letting_91 (fun hc91 => ?_) (fun hc91 => ?_)
        · refine PW.iconst (v := nI 0) (by decide) dX6_letting_117 ?_
          refine PW.iorZ dX6_letting_118 ?_
          refine PW.istore_n rfl (by decide) dX6_letting_119 (?_ : PW _ _ _ _ [(0, _), (1, _), (2, _), (3, _), (4, _), (5, _)] _ _ _)
          refine PW.iincN rfl (by decide) dX6_letting_120 (?_ : PW _ _ _ _ [(0, _), (1, _), (2, _), (3, _), (4, _), (5, _)] _ _ _)
          refine PW.goto 61 (by decide) dX6_letting_123 ?_
          refine PW.drop _ (fun q h => List.mem_of_mem_take (i := 5) h) ?_
          first | (rw [ep, hlj, hc91, Bool.false_and] at ih; exact ih) | (rw [ep, hlj, hc91, decide_eq_true hc98] at ih; exact ih) | (rw [ep, hlj, hc91, decide_eq_false hc98, Bool.false_or, Bool.true_and] at ih; rw [decide_eq_true (h9.resolve_right hc98), Bool.true_and, hc107] at hpb; rw [← hpb] at ih; exact ih)
        · refine PW.iload rfl dX6_letting_94 ?_
          refine PW.bipush (v := nI 9) (by decide) dX6_letting_96 ?_
          refine PW.icmp_eqN 110 (by decide) (by first | omega | (split <;> omega)) (by first | omega | (split <;> omega)) dX6_letting_98 (fun hc98 => ?_) (fun hc98 => ?_)
          · refine PW.iconst (v := nI 1) (by decide) dX6_letting_110 ?_
            refine PW.iload rfl dX6_letting_111 ?_
            refine PW.ishl1 (by omega) dX6_letting_113 ?_
            refine PW.goto 118 (by decide) dX6_letting_114 ?_
            refine PW.iorN dX6_letting_118 ?_
            refine PW.istore_n rfl (by decide) dX6_letting_119 (?_ : PW _ _ _ _ [(0, _), (1, _), (2, _), (3, _), (4, _), (5, _)] _ _ _)
            refine PW.iincN rfl (by decide) dX6_letting_120 (?_ : PW _ _ _ _ [(0, _), (1, _), (2, _), (3, _), (4, _), (5, _)] _ _ _)
            refine PW.goto 61 (by decide) dX6_letting_123 ?_
            refine PW.drop _ (fun q h => List.mem_of_mem_take (i := 5) h) ?_
            first | (rw [ep, hlj, hc91, Bool.false_and] at ih; exact ih) | (rw [ep, hlj, hc91, decide_eq_true hc98] at ih; exact ih) | (rw [ep, hlj, hc91, decide_eq_false hc98, Bool.false_or, Bool.true_and] at ih; rw [decide_eq_true (h9.resolve_right hc98), Bool.true_and, hc107] at hpb; rw [← hpb] at ih; exact ih)
          · refine PW.iload_n rfl rfl dX6_letting_101 ?_
            refine PW.iload rfl dX6_letting_102 ?_
            refine PW.cS _ kX6_165 (m_has (a := pockN R t j) (k := R 6 j) (by omega) (by omega) mem) rfl rfl (Nat.le_of_ble_eq_true rfl) ⟨by decide, by decide⟩ ⟨Nat.zero_le _, Nat.zero_le _⟩ dX6_letting_104 ?_
            refine PW.if_eqB 117 (by decide) dX6_letting_107 (fun hc107 => ?_) (fun hc107 => ?_)
            · refine PW.iconst (v := nI 0) (by decide) dX6_letting_117 ?_
              refine PW.iorZ dX6_letting_118 ?_
              refine PW.istore_n rfl (by decide) dX6_letting_119 (?_ : PW _ _ _ _ [(0, _), (1, _), (2, _), (3, _), (4, _), (5, _)] _ _ _)
              refine PW.iincN rfl (by decide) dX6_letting_120 (?_ : PW _ _ _ _ [(0, _), (1, _), (2, _), (3, _), (4, _), (5, _)] _ _ _)
              refine PW.goto 61 (by decide) dX6_letting_123 ?_
              refine PW.drop _ (fun q h => List.mem_of_mem_take (i := 5) h) ?_
              first | (rw [ep, hlj, hc91, Bool.false_and] at ih; exact ih) | (rw [ep, hlj, hc91, decide_eq_true hc98] at ih; exact ih) | (rw [ep, hlj, hc91, decide_eq_false hc98, Bool.false_or, Bool.true_and] at ih; rw [decide_eq_true (h9.resolve_right hc98), Bool.true_and, hc107] at hpb; rw [← hpb] at ih; exact ih)
            · refine PW.iconst (v := nI 1) (by decide) dX6_letting_110 ?_
              refine PW.iload rfl dX6_letting_111 ?_
              refine PW.ishl1 (by omega) dX6_letting_113 ?_
              refine PW.goto 118 (by decide) dX6_letting_114 ?_
              refine PW.iorN dX6_letting_118 ?_
              refine PW.istore_n rfl (by decide) dX6_letting_119 (?_ : PW _ _ _ _ [(0, _), (1, _), (2, _), (3, _), (4, _), (5, _)] _ _ _)
              refine PW.iincN rfl (by decide) dX6_letting_120 (?_ : PW _ _ _ _ [(0, _), (1, _), (2, _), (3, _), (4, _), (5, _)] _ _ _)
              refine PW.goto 61 (by decide) dX6_letting_123 ?_
              refine PW.drop _ (fun q h => List.mem_of_mem_take (i := 5) h) ?_
              first | (rw [ep, hlj, hc91, Bool.false_and] at ih; exact ih) | (rw [ep, hlj, hc91, decide_eq_true hc98] at ih; exact ih) | (rw [ep, hlj, hc91, decide_eq_false hc98, Bool.false_or, Bool.true_and] at ih; rw [decide_eq_true (h9.resolve_right hc98), Bool.true_and, hc107] at hpb; rw [← hpb] at ih; exact ih)
      · refine PW.iload rfl dX6_letting_61 ?_
        refine PW.aload_n rfl rfl dX6_letting_63 ?_
        refine PW.gI hS.1 (by decide) rfl (by first | exact hM.1 | exact rfl) fX6_78 dX6_letting_64 ?_
        refine PW.icmp_geN 126 (by decide) (by first | omega | (split <;> omega)) (by first | omega | (split <;> omega)) dX6_letting_67 (fun hc67 => ?_) (fun hc67 => by exfalso; omega)
        refine PW.iload_n rfl rfl dX6_letting_126 ?_
        refine PW.iret rfl (Nat.le_refl _) (Nat.le_refl _) dX6_letting_127 ?_
        exact ⟨rfl, rfl⟩
  refine PW.aload_n rfl rfl dX6_letting_0 ?_
  refine PW.iload_n rfl rfl dX6_letting_1 ?_
  refine PW.cV (ci := 6) (j := 0) _ hS.1 (by decide) rfl kX6_175 (m_fixedOf hS hM hD ht) rfl rfl (Nat.le_of_ble_eq_true rfl) rfl ⟨by decide, by decide⟩ ⟨Nat.zero_le _, Nat.zero_le _⟩ dX6_letting_2 ?_
  refine PW.if_neN 12 (by decide) (by first | omega | (split <;> omega)) dX6_letting_5 (fun hc5 => ?_) (fun hc5 => ?_)
  · refine PW.iconst (v := nI 1) (by decide) dX6_letting_12 ?_
    refine PW.aload_n rfl rfl dX6_letting_13 ?_
    refine PW.gI hS.1 (by decide) rfl (by first | exact hM.1 | exact rfl) fX6_78 dX6_letting_14 ?_
    refine PW.ishl1 (by omega) dX6_letting_17 ?_
    refine PW.iconst (v := nI 1) (by decide) dX6_letting_18 ?_
    refine PW.isubN (by omega) dX6_letting_19 ?_
    refine PW.istore_n rfl (by decide) dX6_letting_20 (?_ : PW _ _ _ _ [(0, _), (1, _), (2, _)] _ _ _)
    refine PW.iconst (v := nI 0) (by decide) dX6_letting_21 ?_
    refine PW.istore_n rfl (by decide) dX6_letting_22 (?_ : PW _ _ _ _ [(0, _), (1, _), (2, _), (3, _)] _ _ _)
    first | (refine h23 (fun _ => 0) (fun j _ => by show 0 = if _ then 0 &&& j else 0; rw [Nat.zero_and, ite_self]) (by decide) (fun k hk => ?_); rw [letN_eq hD hk t, hc5]; simp; done) | (refine h23 (fun j => allN R t j) (fun j _ => rfl) (by have := allN_le R t (2 ^ R 0 0); omega) (fun k hk => ?_); rw [letN_eq hD hk t, decide_eq_true (Nat.pos_of_ne_zero hc5), Bool.true_and])
  · refine PW.iconst (v := nI 0) (by decide) dX6_letting_8 ?_
    refine PW.goto 20 (by decide) dX6_letting_9 ?_
    refine PW.istore_n rfl (by decide) dX6_letting_20 (?_ : PW _ _ _ _ [(0, _), (1, _), (2, _)] _ _ _)
    refine PW.iconst (v := nI 0) (by decide) dX6_letting_21 ?_
    refine PW.istore_n rfl (by decide) dX6_letting_22 (?_ : PW _ _ _ _ [(0, _), (1, _), (2, _), (3, _)] _ _ _)
    first | (refine h23 (fun _ => 0) (fun j _ => by show 0 = if _ then 0 &&& j else 0; rw [Nat.zero_and, ite_self]) (by decide) (fun k hk => ?_); rw [letN_eq hD hk t, hc5]; simp; done) | (refine h23 (fun j => allN R t j) (fun j _ => rfl) (by have := allN_le R t (2 ^ R 0 0); omega) (fun k hk => ?_); rw [letN_eq hD hk t, decide_eq_true (Nat.pos_of_ne_zero hc5), Bool.true_and])
end MLW
