/-! ===== the class: what is told, filled, outlawed ===== -/
def fillN (R : DR) (w : Nat → Nat) (k : Nat) : Nat → Nat
  | 0 => 0
  | n + 1 => fillN R w k n + if w n = k then R 14 n else 0
theorem fillN_le {R : DR} {w : Nat → Nat} {k : Nat} : ∀ {n : Nat}, (∀ t, t < n → R 14 t ≤ 5) → fillN R w k n ≤ 5 * n := by
  intro n
  induction n with
  | zero => intro _; exact Nat.le_refl _
  | succ n ih =>
    intro h
    have h1 := ih (fun t ht => h t (by omega))
    have h2 := h n (by omega)
    show fillN R w k n + (if w n = k then R 14 n else 0) ≤ _
    split <;> omega
section XR
variable {b s : Nat} {sc : pw_E} {mem : pw_M} {R : DR} {w : Nat → Nat} {p : Int32} {d : Nat}
set_option maxHeartbeats 4000000 in
theorem x_isPocket (hS : St b s sc mem) (hX : XD mem b R) (hD : Dat R) (k : Int32) : Rf 1 mX5_isPocket [.ref 9, .int k] mem (some (.int (bI (inR k (R 0 0))))) mem := by
  have h6 := hD.1
  refine Ret.of (by decide) (Nat.le_of_ble_eq_true rfl) fun l G => ?_
  show PW _ _ _ _ [(0, _), (1, _)] _ _ _
  refine PW.iload_n rfl rfl dX5_isPocket_0 ?_
  refine PW.iconst (v := nI 0) (by decide) dX5_isPocket_1 ?_
  refine PW.aload_n rfl rfl dX5_isPocket_2 ?_
  refine PW.gV hS.1 (by decide) rfl hS.2.1 fX5_58 dX5_isPocket_3 ?_
  refine PW.gI hS.1 (by have := hS.b; omega) (skR0 hS.b) (by first | exact hX.1 | exact rfl) fX5_206 dX5_isPocket_6 ?_
  refine PW.iconst (v := nI 1) (by decide) dX5_isPocket_9 ?_
  refine PW.isub dX5_isPocket_10 ?_
  refine PW.cS _ kX5_71 (x_within k (nI 0) (nI (R 0 0) - nI 1) mem) rfl rfl (Nat.le_of_ble_eq_true rfl) ⟨by decide, by decide⟩ ⟨Nat.zero_le _, Nat.zero_le _⟩ dX5_isPocket_11 ?_
  refine PW.zret rfl (by first | exact bI_nar _ | rfl) (Nat.le_refl _) (Nat.le_refl _) dX5_isPocket_14 ?_
  exact ⟨by rw [inR_x (by omega)], rfl⟩
set_option maxHeartbeats 4000000 in
theorem x_isThing (hS : St b s sc mem) (hX : XD mem b R) (hD : Dat R) (k : Int32) : Rf 1 mX5_isThing [.ref 9, .int k] mem (some (.int (bI (inR k (R 1 0))))) mem := by
  have h6 := hD.2.1
  refine Ret.of (by decide) (Nat.le_of_ble_eq_true rfl) fun l G => ?_
  show PW _ _ _ _ [(0, _), (1, _)] _ _ _
  refine PW.iload_n rfl rfl dX5_isThing_0 ?_
  refine PW.iconst (v := nI 0) (by decide) dX5_isThing_1 ?_
  refine PW.aload_n rfl rfl dX5_isThing_2 ?_
  refine PW.gV hS.1 (by decide) rfl hS.2.1 fX5_58 dX5_isThing_3 ?_
  refine PW.gI hS.1 (by have := hS.b; omega) (skR1 hS.b) (by first | exact hX.2.1 | exact rfl) fX5_177 dX5_isThing_6 ?_
  refine PW.iconst (v := nI 1) (by decide) dX5_isThing_9 ?_
  refine PW.isub dX5_isThing_10 ?_
  refine PW.cS _ kX5_71 (x_within k (nI 0) (nI (R 1 0) - nI 1) mem) rfl rfl (Nat.le_of_ble_eq_true rfl) ⟨by decide, by decide⟩ ⟨Nat.zero_le _, Nat.zero_le _⟩ dX5_isThing_11 ?_
  refine PW.zret rfl (by first | exact bI_nar _ | rfl) (Nat.le_refl _) (Nat.le_refl _) dX5_isThing_14 ?_
  exact ⟨by rw [inR_x (by omega)], rfl⟩
set_option maxHeartbeats 4000000 in
theorem x_filled (hS : St b s sc mem) (hX : XD mem b R) (hD : Dat R) (hN : XN mem 13 (R 1 0) w p d) (hw : ∀ t, t < R 1 0 → w t < R 0 0) {k : Nat} (hk : k < 6) : Rf 0 mX5_filled [.ref 9, .int (nI k)] mem (some (.int (nI (fillN R w k (R 1 0))))) mem := by
  have h6 := hD.1
  have hT := hD.2.1
  have hb := hS.b
  refine Ret.of (by decide) (Nat.le_of_ble_eq_true rfl) fun l G => ?_
  show PW _ _ _ _ [(0, _), (1, _)] _ _ _
  refine PW.iconst (v := nI 0) (by decide) dX5_filled_0 ?_
  refine PW.istore_n rfl (by decide) dX5_filled_1 (?_ : PW _ _ _ _ [(0, _), (1, _), (2, _)] _ _ _)
  refine PW.iconst (v := nI 0) (by decide) dX5_filled_2 ?_
  refine PW.istore_n rfl (by decide) dX5_filled_3 (?_ : PW _ _ _ _ [(0, _), (1, _), (2, _), (3, _)] _ _ _)
  refine PW.up (fun j => [(0, .ref 9), (1, .int (nI k)), (2, .int (nI (fillN R w k j))), (3, .int (nI j))]) (fun _ => mem) (R 1 0) (fun j hj ih => ?_) ?_
  · have hwj := hw j hj
    have e : fillN R w k (j + 1) = fillN R w k j + if w j = k then R 14 j else 0 := rfl
    refine PW.iload_n rfl rfl dX5_filled_4 ?_
    refine PW.aload_n rfl rfl dX5_filled_5 ?_
    refine PW.gV hS.1 (by decide) rfl hS.2.1 fX5_58 dX5_filled_6 ?_
    refine PW.gI hS.1 (by have := hS.b; omega) (skR1 hS.b) (by first | exact hX.2.1 | exact hN.1 _ hj | exact (hX.2.2.2.2.2.2 _ hj).2.1 | exact rfl) fX5_177 dX5_filled_9 ?_
    refine PW.icmp_geN 46 (by decide) (by first | omega | (split <;> omega)) (by first | omega | (split <;> omega)) dX5_filled_12 (fun hc12 => by exfalso; omega) (fun hc12 => ?_)
    refine PW.aload_n rfl rfl dX5_filled_15 ?_
    refine PW.gR hS.1 (by decide) rfl fX5_19 dX5_filled_16 ?_
    refine PW.gR hS.1 (by decide) rfl fX5_134 dX5_filled_19 ?_
    refine PW.iload_n rfl rfl dX5_filled_22 ?_
    refine PW.aI hS.1 (by decide) rfl (by exact rfl) ⟨by omega, by decide⟩ (by first | exact hX.2.1 | exact hN.1 _ hj | exact (hX.2.2.2.2.2.2 _ hj).2.1 | exact rfl) dX5_filled_23 ?_
    refine PW.iload_n rfl rfl dX5_filled_24 ?_
    refine PW.icmp_neN 40 (by decide) (by first | omega | (split <;> omega)) (by first | omega | (split <;> omega)) dX5_filled_25 (fun hc25 => ?_) (fun hc25 => ?_)
    · refine PW.iincN rfl (by decide) dX5_filled_40 (?_ : PW _ _ _ _ [(0, _), (1, _), (2, _), (3, _)] _ _ _)
      refine PW.goto 4 (by decide) dX5_filled_43 ?_
      first | (rw [e, if_neg hc25] at ih; exact ih) | (rw [e, if_pos hc25] at ih; exact ih)
    · refine PW.iload_n rfl rfl dX5_filled_28 ?_
      refine PW.aload_n rfl rfl dX5_filled_29 ?_
      refine PW.gV hS.1 (by decide) rfl hS.2.1 fX5_58 dX5_filled_30 ?_
      refine PW.gR hS.1 (by have := hS.b; omega) (skR14 hS.b) fX5_128 dX5_filled_33 ?_
      refine PW.iload_n rfl rfl dX5_filled_36 ?_
      refine PW.aI hS.1 (by have := hS.b; omega) (akR18 hS.b) (by exact rfl) ⟨by omega, by decide⟩ (by first | exact hX.2.1 | exact hN.1 _ hj | exact (hX.2.2.2.2.2.2 _ hj).2.1 | exact rfl) dX5_filled_37 ?_
      refine PW.iaddN dX5_filled_38 ?_
      refine PW.istore_n rfl (by decide) dX5_filled_39 (?_ : PW _ _ _ _ [(0, _), (1, _), (2, _), (3, _)] _ _ _)
      refine PW.iincN rfl (by decide) dX5_filled_40 (?_ : PW _ _ _ _ [(0, _), (1, _), (2, _), (3, _)] _ _ _)
      refine PW.goto 4 (by decide) dX5_filled_43 ?_
      first | (rw [e, if_neg hc25] at ih; exact ih) | (rw [e, if_pos hc25] at ih; exact ih)
  · refine PW.iload_n rfl rfl dX5_filled_4 ?_
    refine PW.aload_n rfl rfl dX5_filled_5 ?_
    refine PW.gV hS.1 (by decide) rfl hS.2.1 fX5_58 dX5_filled_6 ?_
    refine PW.gI hS.1 (by have := hS.b; omega) (skR1 hS.b) (by first | exact hX.2.1 | exact rfl) fX5_177 dX5_filled_9 ?_
    refine PW.icmp_geN 46 (by decide) (by first | omega | (split <;> omega)) (by first | omega | (split <;> omega)) dX5_filled_12 (fun hc12 => ?_) (fun hc12 => by exfalso; omega)
    refine PW.iload_n rfl rfl dX5_filled_46 ?_
    refine PW.iret rfl (Nat.le_refl _) (Nat.le_refl _) dX5_filled_47 ?_
    exact ⟨rfl, rfl⟩
end XR
