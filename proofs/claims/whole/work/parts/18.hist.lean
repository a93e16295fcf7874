/-! ===== what can be undone, oldest first, as class and model hold it ===== -/
abbrev Hst : Type := Nat → (Nat → Nat) × Int32 × Nat
def HX (mem : pw_M) (n K T : Nat) (h : Hst) : Prop := K ≤ 10 ∧ T < 10 ∧ fi mem 15 1 = nI K ∧ fi mem 15 2 = nI T ∧ ∀ i, i < K → XN mem (17 + 2 * ((T + 10 - K + i) % 10)) n (h i).1 (h i).2.1 (h i).2.2
def HM (mem : pw_M) (n K : Nat) (h : Hst) : Prop := fi mem 95 13 = nI K ∧ ∀ i, i < K → (∀ t, t < n → iv mem 104 (8 * i + t) = nI ((h i).1 t)) ∧ iv mem 104 (8 * i + 6) = (h i).2.1 ∧ iv mem 104 (8 * i + 7) = nI (h i).2.2
def hK1 (K : Nat) : Nat := if K = 10 then 9 else K
def hpush (K : Nat) (h : Hst) (x : (Nat → Nat) × Int32 × Nat) : Hst := fun i => if i < hK1 K then (if K = 10 then h (i + 1) else h i) else x
theorem HX.ag {mem m : pw_M} {n K T : Nat} {h : Hst} {A : Nat → Prop} (hh : HX mem n K T h) (hA : Ag A mem m) (h15 : A 15) (hq : ∀ q, 17 ≤ q → q ≤ 36 → A q) : HX m n K T h :=
  ⟨hh.1, hh.2.1, by rw [hA.fi h15]; exact hh.2.2.1, by rw [hA.fi h15]; exact hh.2.2.2.1, fun i hi => (hh.2.2.2.2 i hi).ag hA (hq _ (by omega) (by omega)) (hq _ (by omega) (by omega))⟩
theorem HM.ag2 {mem m : pw_M} {n K : Nat} {h : Hst} (hh : HM mem n K h) (h13 : fi m 95 13 = fi mem 95 13) (h4 : ∀ q, iv m 104 q = iv mem 104 q) : HM m n K h :=
  ⟨by rw [h13]; exact hh.1, fun i hi => ⟨fun t ht => by rw [h4]; exact (hh.2 i hi).1 t ht, by rw [h4]; exact (hh.2 i hi).2.1, by rw [h4]; exact (hh.2 i hi).2.2⟩⟩
section HST
variable {b s : Nat} {sc : pw_E} {mem : pw_M} {R : DR} {w : Nat → Nat} {p : Int32} {d : Nat} {e n K T : Nat} {h : Hst}
theorem x_pushH (hS : St b s sc mem) (hn : n ≤ 6) (hh : HX mem n K T h) (hN : XN mem 13 n w p d) : Ret 2 0 0 mX1_push [.ref 15, .ref 13] mem (fun u m1 => u = none ∧ St b s sc m1 ∧ Ag (fun q => q ≠ 15 ∧ (q < 17 ∨ 36 < q)) mem m1 ∧ HX m1 n (hK1 K + 1) (if T + 1 < 10 then T + 1 else 0) (hpush K h (w, p, d))) := by
  obtain ⟨k1, k2, k3, k4, k5⟩ := hh
  refine (x_push hS k1 k2 k3 k4).mono (fun u m1 q => ?_)
  obtain ⟨q1, q2, q3, q4, q5, q6, q7, q8⟩ := q
  have hk : (if K + 1 < 10 then K + 1 else 10) = hK1 K + 1 := by unfold hK1; split <;> split <;> omega
  have hk9 : hK1 K ≤ 9 := by unfold hK1; split <;> omega
  refine ⟨q1, q2, q3.mono (fun q hq => ⟨hq.1, by omega, by omega⟩), by omega, by split <;> omega, by rw [q7, hk], q8, fun i hi => ?_⟩
  unfold hpush
  by_cases hi2 : i < hK1 K
  · rw [if_pos hi2]
    by_cases h10 : K = 10
    · have e1 : hK1 K = 9 := by unfold hK1; rw [if_pos h10]
      have hs : ((if T + 1 < 10 then T + 1 else 0) + 10 - (hK1 K + 1) + i) % 10 = (T + 10 - K + (i + 1)) % 10 := by rw [e1, h10]; split <;> omega
      rw [hs, if_pos h10]
      have hne : (T + 10 - K + (i + 1)) % 10 ≠ T := by omega
      exact (k5 (i + 1) (by omega)).ag q3 ⟨by omega, by omega, by omega⟩ ⟨by omega, by omega, by omega⟩
    · have e1 : hK1 K = K := by unfold hK1; rw [if_neg h10]
      have hs : ((if T + 1 < 10 then T + 1 else 0) + 10 - (hK1 K + 1) + i) % 10 = (T + 10 - K + i) % 10 := by rw [e1]; split <;> omega
      rw [hs, if_neg h10]
      have hne : (T + 10 - K + i) % 10 ≠ T := by omega
      exact (k5 i (by omega)).ag q3 ⟨by omega, by omega, by omega⟩ ⟨by omega, by omega, by omega⟩
  · have e1 : i = hK1 K := by omega
    have hs : ((if T + 1 < 10 then T + 1 else 0) + 10 - (hK1 K + 1) + i) % 10 = T := by rw [e1]; split <;> omega
    rw [hs, if_neg hi2]
    exact ⟨fun t ht => by rw [q4 t (by omega)]; exact hN.1 t ht, q5.trans hN.2.1, q6.trans hN.2.2⟩
theorem x_popH (hS : St b s sc mem) (hn : n ≤ 6) (hh : HX mem n (K + 1) T h) : Ret 2 0 0 mX1_popInto [.ref 15, .ref 13] mem (fun u m1 => u = none ∧ St b s sc m1 ∧ Ag (fun q => q ≠ 15 ∧ q ≠ 13 ∧ q ≠ 14) mem m1 ∧ HX m1 n K (if 0 < T then T - 1 else 9) h ∧ XN m1 13 n (h K).1 (h K).2.1 (h K).2.2) := by
  obtain ⟨k1, k2, k3, k4, k5⟩ := hh
  refine (x_popInto hS k1 k2 k3 k4 rfl).mono (fun u m1 q => ?_)
  obtain ⟨q1, q2, q3, q4, q5, q6, q7, q8⟩ := q
  have hl := k5 K (by omega)
  have hs : (T + 10 - (K + 1) + K) % 10 = if 0 < T then T - 1 else 9 := by split <;> omega
  rw [hs] at hl
  refine ⟨q1, q2, q3, ⟨by omega, by split <;> omega, q7, q8, fun i hi => ?_⟩, fun t ht => by rw [q4 t (by omega)]; exact hl.1 t ht, q5.trans hl.2.1, q6.trans hl.2.2⟩
  have hs2 : ((if 0 < T then T - 1 else 9) + 10 - K + i) % 10 = (T + 10 - (K + 1) + i) % 10 := by split <;> omega
  rw [hs2]
  exact (k5 i (by omega)).ag q3 ⟨by omega, by omega, by omega⟩ ⟨by omega, by omega, by omega⟩
theorem m_noteH (hS : St b s sc mem) (hn : n ≤ 6) (hK : K ≤ 10) (hh : HM mem n K h) (hN : MN mem n w p d) : Ret 0 0 0 mX6_note [.ref 95] mem (fun u m1 => u = none ∧ St b s sc m1 ∧ Ag (fun q => q ≠ 95 ∧ q ≠ 104) mem m1 ∧ (∀ j, j ≠ 13 → fv m1 95 j = fv mem 95 j) ∧ HM m1 n (hK1 K + 1) (hpush K h (w, p, d))) := by
  have hk9 : hK1 K ≤ 9 := by unfold hK1; split <;> omega
  refine (m_note hS hK hh.1 (K1 := hK1 K) rfl).mono (fun u m1 q => ?_)
  obtain ⟨q1, q2, q3, q4, q5, q6, q7⟩ := q
  refine ⟨q1, q2, q3, q5, q4, fun i hi => ?_⟩
  unfold hpush
  by_cases hi2 : i < hK1 K
  · rw [if_pos hi2]
    by_cases h10 : K = 10
    · rw [if_pos h10]
      have e1 : hK1 K = 9 := by unfold hK1; rw [if_pos h10]
      have hv : ∀ j, j < 8 → iv m1 104 (8 * i + j) = iv mem 104 (8 * (i + 1) + j) := fun j hj => by rw [q7 _ (by omega), if_pos h10]; congr 1; omega
      obtain ⟨a1, a2, a3⟩ := hh.2 (i + 1) (by omega)
      exact ⟨fun t ht => by rw [hv t (by omega)]; exact a1 t ht, by rw [hv 6 (by omega)]; exact a2, by rw [hv 7 (by omega)]; exact a3⟩
    · rw [if_neg h10]
      have e1 : hK1 K = K := by unfold hK1; rw [if_neg h10]
      have hv : ∀ j, j < 8 → iv m1 104 (8 * i + j) = iv mem 104 (8 * i + j) := fun j hj => by rw [q7 _ (by omega), if_neg h10]
      obtain ⟨a1, a2, a3⟩ := hh.2 i (by omega)
      exact ⟨fun t ht => by rw [hv t (by omega)]; exact a1 t ht, by rw [hv 6 (by omega)]; exact a2, by rw [hv 7 (by omega)]; exact a3⟩
  · rw [if_neg hi2, show i = hK1 K by omega]
    exact ⟨fun t ht => by rw [q6 t (by omega)]; exact hN.1 t ht, by rw [q6 6 (by omega)]; exact hN.2.1, by rw [q6 7 (by omega)]; exact hN.2.2⟩
theorem m_undoH (hS : St b s sc mem) (hn : n ≤ 6) (hK : K + 1 ≤ 10) (hh : HM mem n (K + 1) h) : Ret 0 0 0 mX6_undo [.ref 95] mem (fun u m1 => u = some (.int (nI K)) ∧ St b s sc m1 ∧ Ag (fun q => q ≠ 95 ∧ q ≠ 103) mem m1 ∧ (∀ j, j ≠ 13 → fv m1 95 j = fv mem 95 j) ∧ HM m1 n K h ∧ MN m1 n (h K).1 (h K).2.1 (h K).2.2) := by
  refine (m_undo hS hK hh.1).mono (fun u m1 q => ?_)
  obtain ⟨q1, q2, q3, q4, q5, q6⟩ := q
  obtain ⟨a1, a2, a3⟩ := hh.2 K (by omega)
  have h4 : ∀ q, iv m1 104 q = iv mem 104 q := fun q => q3.iv (r := 104) ⟨by decide, by decide⟩ q
  exact ⟨q1, q2, q3, q5, ⟨q4, fun i hi => by
    obtain ⟨c1, c2, c3⟩ := hh.2 i (by omega)
    exact ⟨fun t ht => by rw [h4]; exact c1 t ht, by rw [h4]; exact c2, by rw [h4]; exact c3⟩⟩, fun t ht => by rw [q6 t (by omega)]; exact a1 t ht, by rw [q6 6 (by omega)]; exact a2, by rw [q6 7 (by omega)]; exact a3⟩
set_option maxHeartbeats 4000000 in
theorem m_undo0 (hS : St b s sc mem) (hh : HM mem n 0 h) : Rf 0 mX6_undo [.ref 95] mem (some (.int (-2))) mem := by
  refine Ret.of (by decide) (Nat.le_of_ble_eq_true rfl) fun l G => ?_
  show PW _ _ _ _ [(0, _)] _ _ _
  refine PW.aload_n rfl rfl dX6_undo_0 ?_
  refine PW.gI hS.1 (by decide) rfl (hh.1) fX6_162 dX6_undo_1 ?_
  refine PW.if_neN 10 (by decide) (by first | omega | (split <;> omega)) dX6_undo_4 (fun hc4 => by exfalso; omega) (fun hc4 => ?_)
  refine PW.bipush (v := -2) (by decide) dX6_undo_7 ?_
  refine PW.iret rfl (Nat.le_refl _) (Nat.le_refl _) dX6_undo_9 ?_
  exact ⟨rfl, rfl⟩
set_option maxHeartbeats 4000000 in
theorem x_undo0 (hS : St b s sc mem) (hh : HX mem n 0 T h) : Rf 3 mX5_undo [.ref 9] mem (some (.int (-2))) mem := by
  refine Ret.of (by decide) (Nat.le_of_ble_eq_true rfl) fun l G => ?_
  show PW _ _ _ _ [(0, _)] _ _ _
  refine PW.aload_n rfl rfl dX5_undo_0 ?_
  refine PW.gR hS.1 (by decide) rfl fX5_26 dX5_undo_1 ?_
  refine PW.gI hS.1 (by decide) rfl (hh.2.2.1) fX5_90 dX5_undo_4 ?_
  refine PW.if_neN 13 (by decide) (by first | omega | (split <;> omega)) dX5_undo_7 (fun hc7 => by exfalso; omega) (fun hc7 => ?_)
  refine PW.bipush (v := -2) (by decide) dX5_undo_10 ?_
  refine PW.iret rfl (Nat.le_refl _) (Nat.le_refl _) dX5_undo_12 ?_
  exact ⟨rfl, rfl⟩
set_option maxHeartbeats 4000000 in
theorem x_undoH (hS : St b s sc mem) (hn : n ≤ 6) (hh : HX mem n (K + 1) T h) : Ret 3 0 0 mX5_undo [.ref 9] mem (fun u m1 => u = some (.int (nI K)) ∧ St b s sc m1 ∧ Ag (fun q => q ≠ 15 ∧ q ≠ 13 ∧ q ≠ 14) mem m1 ∧ HX m1 n K (if 0 < T then T - 1 else 9) h ∧ XN m1 13 n (h K).1 (h K).2.1 (h K).2.2) := by
  have hk := hh.1
  refine Ret.of (by decide) (Nat.le_of_ble_eq_true rfl) fun l G => ?_
  show PW _ _ _ _ [(0, _)] _ _ _
  refine PW.aload_n rfl rfl dX5_undo_0 ?_
  refine PW.gR hS.1 (by decide) rfl fX5_26 dX5_undo_1 ?_
  refine PW.gI hS.1 (by decide) rfl (hh.2.2.1) fX5_90 dX5_undo_4 ?_
  refine PW.if_neN 13 (by decide) (by first | omega | (split <;> omega)) dX5_undo_7 (fun hc7 => ?_) (fun hc7 => by exfalso; omega)
  refine PW.aload_n rfl rfl dX5_undo_13 ?_
  refine PW.gR hS.1 (by decide) rfl fX5_26 dX5_undo_14 ?_
  refine PW.aload_n rfl rfl dX5_undo_17 ?_
  refine PW.gR hS.1 (by decide) rfl fX5_19 dX5_undo_18 ?_
  refine PW.dV (ci := 1) (j := 0) _ hS.1 (by decide) rfl kX5_183 (x_popH hS hn hh) rfl rfl (Nat.le_of_ble_eq_true rfl) rfl ⟨by decide, by decide⟩ ⟨Nat.zero_le _, Nat.zero_le _⟩ dX5_undo_21 (fun v m1 q => ?_)
  obtain ⟨rfl, hS, hA, hX', hN'⟩ := q
  refine PW.aload_n rfl rfl dX5_undo_24 ?_
  refine PW.gR hS.1 (by decide) rfl fX5_26 dX5_undo_25 ?_
  refine PW.gI hS.1 (by decide) rfl (hX'.2.2.1) fX5_90 dX5_undo_28 ?_
  refine PW.iret rfl (Nat.le_refl _) (Nat.le_refl _) dX5_undo_31 ?_
  exact ⟨rfl, hS, hA, hX', hN'⟩
end HST
