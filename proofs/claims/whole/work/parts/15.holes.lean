/-! ===== drops, lay, stitches: class and model ===== -/
theorem x_inR (k : Int32) {h : Nat} (hh : h < 1000) (mem : pw_M) : Rf 0 mX5_within [.int k, .int (nI 0), .int (nI h)] mem (some (.int (bI (inR k (h + 1))))) mem := by
  have h1 := x_within k (nI 0) (nI h) mem
  rw [rng_x, inR_c (n := h + 1) (lo := (nI 0).toInt) (hi := (nI h).toInt) rfl (by rw [nI_toInt (by omega)]; omega)] at h1
  exact h1
theorem m_inR (k : Int32) {h : Int64} {n : Nat} (hh : h.toInt = (n : Int) - 1) (mem : pw_M) : Rf 0 mX6_in [.long k.toInt64, .long 0, .long h] mem (some (.int (bI (inR k n)))) mem := by
  have h1 := m_in k.toInt64 0 h mem
  rw [rng_m, inR_c (n := n) (lo := Int64.toInt 0) (hi := h.toInt) rfl hh] at h1
  exact h1
abbrev cl (k : Int32) : Nat := k.toNatClampNeg
theorem cl_nI {j : Nat} (h : j < 2 ^ 31) : cl (nI j) = j := nI_clamp h
def dropsS (R : DR) (w : Nat → Nat) (t n : Int32) : Int32 := if inR t (R 1 0) then (if inR n 21 then nI (behsN R (R 14 (cl t)) (w (cl t)) (cl n)) else -1) else -1
def layN (R : DR) (w : Nat → Nat) (t n : Nat) : Nat → Nat
  | 0 => 0
  | k + 1 => if behsN R (R 14 t) k n = w t then layN R w t n k ||| 2 ^ k else layN R w t n k
def layS (R : DR) (w : Nat → Nat) (t n : Int32) : Int32 := if inR t (R 1 0) then (if inR n 21 then nI (layN R w (cl t) (cl n) (R 0 0)) else -1) else -1
/-- from a, by nights of a thing of bulk 1: is c come to within n; what is passed is not q -/
def comeN (R : DR) (c q : Nat) : Nat → Nat → Bool
  | 0, a => decide (a = c)
  | n + 1, a => if a = c then true else comeN R c q n (if a = q then a else behN R 1 a)
/-- the least that is passed on the way -/
def leastN (R : DR) (c : Nat) : Nat → Nat → Nat → Nat
  | 0, _, m => m
  | n + 1, a, m => if a = c then m else leastN R c n (behN R 1 a) (if a < m then a else m)
section HOL
variable {b s : Nat} {sc : pw_E} {mem : pw_M} {R : DR} {w : Nat → Nat} {p : Int32} {d : Nat} {e : Nat}
set_option maxHeartbeats 4000000 in
theorem m_through (hS : St b s sc mem) (hM : MD mem R) (hD : Dat R) {k u : Nat} (hk : k < R 0 0) (hu : u ≤ 5) : Rf 0 mX6_through [.ref 95, .int (nI k), .int (nI u)] mem (some (.int (nI (behN R u k)))) mem := by
  have h6 := hD.1
  obtain ⟨-, -, -, d10, d11, -⟩ := hD.2.2.2.2.1 k (by omega)
  obtain ⟨-, -, -, -, -, -, x8, x9⟩ := hM.2.2.2.1 k hk
  by_cases h9 : R 10 k = 9
  · have e8 : iv mem 97 (8 * k + 6) = -9 := by rw [x8, h9]; rfl
    have hb : behN R u k = k := by simp [behN, h9]
    refine Ret.of (by decide) (Nat.le_of_ble_eq_true rfl) fun l G => ?_
    show PW _ _ _ _ [(0, _), (1, _), (2, _)] _ _ _
    refine PW.aload_n rfl rfl dX6_through_0 ?_
    refine PW.gR hS.1 (by decide) rfl fX6_13 dX6_through_1 ?_
    refine PW.bipush (v := nI 8) (by decide) dX6_through_4 ?_
    refine PW.iload_n rfl rfl dX6_through_6 ?_
    refine PW.imulN dX6_through_7 ?_
    refine PW.bipush (v := nI 6) (by decide) dX6_through_8 ?_
    refine PW.iaddN dX6_through_10 ?_
    refine PW.aI hS.1 (by decide) rfl (by exact rfl) ⟨by omega, by decide⟩ (by first | exact e8 | exact rfl) dX6_through_11 ?_
    refine PW.istore_n rfl (by decide) dX6_through_12 (?_ : PW _ _ _ _ [(0, _), (1, _), (2, _), (3, _)] _ _ _)
    refine PW.iload_n rfl rfl dX6_through_13 ?_
    refine PW.if_lt 50 (by decide) dX6_through_14 (fun hc14 => ?_) (fun hc14 => by exact absurd (by decide) hc14)
    refine PW.iload_n rfl rfl dX6_through_50 ?_
    refine PW.iret rfl (Nat.le_refl _) (Nat.le_refl _) dX6_through_51 ?_
    exact ⟨by rw [hb], rfl⟩
  · have hlt := d10.resolve_right h9
    have e8 : iv mem 97 (8 * k + 6) = nI (R 10 k) := by rw [x8]; exact hI_lt (by omega)
    have h11 := d11 h9
    have h3 := (hD.2.2.2.1 _ hlt).2.1
    refine Ret.of (by decide) (Nat.le_of_ble_eq_true rfl) fun l G => ?_
    show PW _ _ _ _ [(0, _), (1, _), (2, _)] _ _ _
    refine PW.aload_n rfl rfl dX6_through_0 ?_
    refine PW.gR hS.1 (by decide) rfl fX6_13 dX6_through_1 ?_
    refine PW.bipush (v := nI 8) (by decide) dX6_through_4 ?_
    refine PW.iload_n rfl rfl dX6_through_6 ?_
    refine PW.imulN dX6_through_7 ?_
    refine PW.bipush (v := nI 6) (by decide) dX6_through_8 ?_
    refine PW.iaddN dX6_through_10 ?_
    refine PW.aI hS.1 (by decide) rfl (by exact rfl) ⟨by omega, by decide⟩ (by first | exact e8 | exact x9 h9 | exact (hM.2.2.2.1 _ hlt).1 | exact rfl) dX6_through_11 ?_
    refine PW.istore_n rfl (by decide) dX6_through_12 (?_ : PW _ _ _ _ [(0, _), (1, _), (2, _), (3, _)] _ _ _)
    refine PW.iload_n rfl rfl dX6_through_13 ?_
    refine PW.if_lt 50 (by decide) dX6_through_14 (fun hc14 => by exact absurd hc14 (nI_pos (by omega))) (fun hc14 => ?_)
    refine PW.iload_n rfl rfl dX6_through_17 ?_
    refine PW.aload_n rfl rfl dX6_through_18 ?_
    refine PW.gR hS.1 (by decide) rfl fX6_13 dX6_through_19 ?_
    refine PW.bipush (v := nI 8) (by decide) dX6_through_22 ?_
    refine PW.iload_n rfl rfl dX6_through_24 ?_
    refine PW.imulN dX6_through_25 ?_
    refine PW.bipush (v := nI 7) (by decide) dX6_through_26 ?_
    refine PW.iaddN dX6_through_28 ?_
    refine PW.aI hS.1 (by decide) rfl (by exact rfl) ⟨by omega, by decide⟩ (by first | exact e8 | exact x9 h9 | exact (hM.2.2.2.1 _ hlt).1 | exact rfl) dX6_through_29 ?_
    refine PW.icmp_gtN 50 (by decide) (by first | omega | (split <;> omega)) (by first | omega | (split <;> omega)) dX6_through_30 (fun hc30 => ?_) (fun hc30 => ?_)
    · refine PW.iload_n rfl rfl dX6_through_50 ?_
      refine PW.iret rfl (Nat.le_refl _) (Nat.le_refl _) dX6_through_51 ?_
      first | exact ⟨by rw [show behN R u k = k by unfold behN; rw [if_neg (by omega)]], rfl⟩ | exact ⟨by rw [show behN R u k = R 10 k by unfold behN; rw [if_pos (by omega)]], rfl⟩
    · refine PW.iload_n rfl rfl dX6_through_33 ?_
      refine PW.aload_n rfl rfl dX6_through_34 ?_
      refine PW.gR hS.1 (by decide) rfl fX6_13 dX6_through_35 ?_
      refine PW.bipush (v := nI 8) (by decide) dX6_through_38 ?_
      refine PW.iload_n rfl rfl dX6_through_40 ?_
      refine PW.imulN dX6_through_41 ?_
      refine PW.aI hS.1 (by decide) rfl (by exact rfl) ⟨by omega, by decide⟩ (by first | exact e8 | exact x9 h9 | exact (hM.2.2.2.1 _ hlt).1 | exact rfl) dX6_through_42 ?_
      refine PW.icmp_gtN 50 (by decide) (by first | omega | (split <;> omega)) (by first | omega | (split <;> omega)) dX6_through_43 (fun hc43 => ?_) (fun hc43 => ?_)
      · refine PW.iload_n rfl rfl dX6_through_50 ?_
        refine PW.iret rfl (Nat.le_refl _) (Nat.le_refl _) dX6_through_51 ?_
        first | exact ⟨by rw [show behN R u k = k by unfold behN; rw [if_neg (by omega)]], rfl⟩ | exact ⟨by rw [show behN R u k = R 10 k by unfold behN; rw [if_pos (by omega)]], rfl⟩
      · refine PW.iload_n rfl rfl dX6_through_46 ?_
        refine PW.goto 51 (by decide) dX6_through_47 ?_
        refine PW.iret rfl (Nat.le_refl _) (Nat.le_refl _) dX6_through_51 ?_
        first | exact ⟨by rw [show behN R u k = k by unfold behN; rw [if_neg (by omega)]], rfl⟩ | exact ⟨by rw [show behN R u k = R 10 k by unfold behN; rw [if_pos (by omega)]], rfl⟩
set_option maxHeartbeats 4000000 in
theorem m_dropsFrom (hS : St b s sc mem) (hM : MD mem R) (hD : Dat R) {k u n : Nat} (hk : k < R 0 0) (hu : u ≤ 5) (hn : n ≤ 20) : Rf 1 mX6_dropsFrom [.ref 95, .int (nI k), .int (nI u), .int (nI n)] mem (some (.int (nI (behsN R u k n)))) mem := by
  refine Ret.of (by decide) (Nat.le_of_ble_eq_true rfl) fun l G => ?_
  show PW _ _ _ _ [(0, _), (1, _), (2, _), (3, _)] _ _ _
  refine PW.iload_n rfl rfl dX6_dropsFrom_0 ?_
  refine PW.istore (by decide) dX6_dropsFrom_1 (?_ : PW _ _ _ _ [(0, _), (1, _), (2, _), (3, _), (4, _)] _ _ _)
  refine PW.iconst (v := nI 0) (by decide) dX6_dropsFrom_3 ?_
  refine PW.istore (by decide) dX6_dropsFrom_4 (?_ : PW _ _ _ _ [(0, _), (1, _), (2, _), (3, _), (4, _), (5, _)] _ _ _)
  refine PW.up (fun j => [(0, .ref 95), (1, .int (nI k)), (2, .int (nI u)), (3, .int (nI n)), (4, .int (nI (behsN R u k j))), (5, .int (nI j))]) (fun _ => mem) n (fun j hj ih => ?_) ?_
  · refine PW.iload rfl dX6_dropsFrom_6 ?_
    refine PW.iload_n rfl rfl dX6_dropsFrom_8 ?_
    refine PW.icmp_geN 27 (by decide) (by first | omega | (split <;> omega)) (by first | omega | (split <;> omega)) dX6_dropsFrom_9 (fun hc9 => by exfalso; omega) (fun hc9 => ?_)
    refine PW.aload_n rfl rfl dX6_dropsFrom_12 ?_
    refine PW.iload rfl dX6_dropsFrom_13 ?_
    refine PW.iload_n rfl rfl dX6_dropsFrom_15 ?_
    refine PW.cV (ci := 6) (j := 0) _ hS.1 (by decide) rfl kX6_218 (m_through hS hM hD (behsN_lt hD hk j) hu) rfl rfl (Nat.le_of_ble_eq_true rfl) rfl ⟨by decide, by decide⟩ ⟨Nat.zero_le _, Nat.zero_le _⟩ dX6_dropsFrom_16 ?_
    refine PW.istore (by decide) dX6_dropsFrom_19 (?_ : PW _ _ _ _ [(0, _), (1, _), (2, _), (3, _), (4, _), (5, _)] _ _ _)
    refine PW.iincN rfl (by decide) dX6_dropsFrom_21 (?_ : PW _ _ _ _ [(0, _), (1, _), (2, _), (3, _), (4, _), (5, _)] _ _ _)
    refine PW.goto 6 (by decide) dX6_dropsFrom_24 ?_
    exact ih
  · refine PW.iload rfl dX6_dropsFrom_6 ?_
    refine PW.iload_n rfl rfl dX6_dropsFrom_8 ?_
    refine PW.icmp_geN 27 (by decide) (by first | omega | (split <;> omega)) (by first | omega | (split <;> omega)) dX6_dropsFrom_9 (fun hc9 => ?_) (fun hc9 => by exfalso; omega)
    refine PW.iload rfl dX6_dropsFrom_27 ?_
    refine PW.iret rfl (Nat.le_refl _) (Nat.le_refl _) dX6_dropsFrom_29 ?_
    exact ⟨rfl, rfl⟩
set_option maxHeartbeats 4000000 in
theorem x_drops (hS : St b s sc mem) (hX : XD mem b R) (hD : Dat R) (hN : XN mem 13 (R 1 0) w p d) (hw : ∀ t, t < R 1 0 → w t < R 0 0) (t n : Int32) : Rf 2 mX5_drops [.ref 9, .int t, .int n] mem (some (.int (dropsS R w t n))) mem := by
  have hT := hD.2.1
  refine Ret.of (by decide) (Nat.le_of_ble_eq_true rfl) fun l G => ?_
  show PW _ _ _ _ [(0, _), (1, _), (2, _)] _ _ _
  refine PW.aload_n rfl rfl dX5_drops_0 ?_
  refine PW.iload_n rfl rfl dX5_drops_1 ?_
  refine PW.cV (ci := 5) (j := 0) _ hS.1 (by decide) rfl kX5_122 (x_isThing hS hX hD t) rfl rfl (Nat.le_of_ble_eq_true rfl) rfl ⟨by decide, by decide⟩ ⟨Nat.zero_le _, Nat.zero_le _⟩ dX5_drops_2 ?_
  refine PW.if_eqB 18 (by decide) dX5_drops_5 (fun hc5 => ?_) (fun hc5 => ?_)
  · refine PW.iconst (v := -1) (by decide) dX5_drops_18 ?_
    refine PW.iret rfl (Nat.le_refl _) (Nat.le_refl _) dX5_drops_19 ?_
    first | exact ⟨by rw [dropsS, hc5]; rfl, rfl⟩ | exact ⟨by rw [dropsS, hc5, hc15]; rfl, rfl⟩ | exact ⟨by rw [dropsS, hc5, hc15, cl_nI (by omega), cl_nI (by omega)]; rfl, rfl⟩
  · refine PW.iload_n rfl rfl dX5_drops_8 ?_
    refine PW.iconst (v := nI 0) (by decide) dX5_drops_9 ?_
    refine PW.bipush (v := nI 20) (by decide) dX5_drops_10 ?_
    refine PW.cS _ kX5_71 (x_inR n (h := 20) (by decide) mem) rfl rfl (Nat.le_of_ble_eq_true rfl) ⟨by decide, by decide⟩ ⟨Nat.zero_le _, Nat.zero_le _⟩ dX5_drops_12 ?_
    refine PW.if_neB 20 (by decide) dX5_drops_15 (fun hc15 => ?_) (fun hc15 => ?_)
    · obtain ⟨t', ht, rfl⟩ := inR_of hc5
      obtain ⟨n', hn, rfl⟩ := inR_of hc15
      refine PW.aload_n rfl rfl dX5_drops_20 ?_
      refine PW.gV hS.1 (by decide) rfl hS.2.1 fX5_58 dX5_drops_21 ?_
      refine PW.aload_n rfl rfl dX5_drops_24 ?_
      refine PW.gR hS.1 (by decide) rfl fX5_19 dX5_drops_25 ?_
      refine PW.gR hS.1 (by decide) rfl fX5_134 dX5_drops_28 ?_
      refine PW.iload_n rfl rfl dX5_drops_31 ?_
      refine PW.aI hS.1 (by decide) rfl (by exact rfl) ⟨by omega, by decide⟩ (by first | exact hN.1 _ ht | exact (hX.2.2.2.2.2.2 _ ht).2.1 | exact rfl) dX5_drops_32 ?_
      refine PW.aload_n rfl rfl dX5_drops_33 ?_
      refine PW.gV hS.1 (by decide) rfl hS.2.1 fX5_58 dX5_drops_34 ?_
      refine PW.gR hS.1 (by have := hS.b; omega) (skR14 hS.b) fX5_128 dX5_drops_37 ?_
      refine PW.iload_n rfl rfl dX5_drops_40 ?_
      refine PW.aI hS.1 (by have := hS.b; omega) (akR18 hS.b) (by exact rfl) ⟨by omega, by decide⟩ (by first | exact hN.1 _ ht | exact (hX.2.2.2.2.2.2 _ ht).2.1 | exact rfl) dX5_drops_41 ?_
      refine PW.iload_n rfl rfl dX5_drops_42 ?_
      refine PW.cV (ci := 2) (j := 0) _ hS.1 (by have := hS.b; omega) (skR0 hS.b) kX5_213 (x_behindNights hS hS.b hX hD (hw _ ht) (hD.2.2.2.2.2.2 _ ht).2.2.1 (by omega)) rfl rfl (Nat.le_of_ble_eq_true rfl) rfl ⟨by decide, by decide⟩ ⟨Nat.zero_le _, Nat.zero_le _⟩ dX5_drops_43 ?_
      refine PW.iret rfl (Nat.le_refl _) (Nat.le_refl _) dX5_drops_46 ?_
      first | exact ⟨by rw [dropsS, hc5]; rfl, rfl⟩ | exact ⟨by rw [dropsS, hc5, hc15]; rfl, rfl⟩ | exact ⟨by rw [dropsS, hc5, hc15, cl_nI (by omega), cl_nI (by omega)]; rfl, rfl⟩
    · refine PW.iconst (v := -1) (by decide) dX5_drops_18 ?_
      refine PW.iret rfl (Nat.le_refl _) (Nat.le_refl _) dX5_drops_19 ?_
      first | exact ⟨by rw [dropsS, hc5]; rfl, rfl⟩ | exact ⟨by rw [dropsS, hc5, hc15]; rfl, rfl⟩ | exact ⟨by rw [dropsS, hc5, hc15, cl_nI (by omega), cl_nI (by omega)]; rfl, rfl⟩
set_option maxHeartbeats 4000000 in
theorem m_drops (hS : St b s sc mem) (hM : MD mem R) (hD : Dat R) (hN : MN mem (R 1 0) w p d) (hw : ∀ t, t < R 1 0 → w t < R 0 0) (t n : Int32) : Rf 2 mX6_drops [.ref 95, .int t, .int n] mem (some (.int (dropsS R w t n))) mem := by
  have hT := hD.2.1
  refine Ret.of (by decide) (Nat.le_of_ble_eq_true rfl) fun l G => ?_
  show PW _ _ _ _ [(0, _), (1, _), (2, _)] _ _ _
  refine PW.aload_n rfl rfl dX6_drops_0 ?_
  refine PW.iload_n rfl rfl dX6_drops_1 ?_
  refine PW.cV (ci := 6) (j := 0) _ hS.1 (by decide) rfl kX6_193 (m_isThing hS hM hD t) rfl rfl (Nat.le_of_ble_eq_true rfl) rfl ⟨by decide, by decide⟩ ⟨Nat.zero_le _, Nat.zero_le _⟩ dX6_drops_2 ?_
  refine PW.if_eqB 40 (by decide) dX6_drops_5 (fun hc5 => ?_) (fun hc5 => ?_)
  · refine PW.iconst (v := -1) (by decide) dX6_drops_40 ?_
    refine PW.iret rfl (Nat.le_refl _) (Nat.le_refl _) dX6_drops_41 ?_
    first | exact ⟨by rw [dropsS, hc5]; rfl, rfl⟩ | exact ⟨by rw [dropsS, hc5, hc17]; rfl, rfl⟩ | exact ⟨by rw [dropsS, hc5, hc17, cl_nI (by omega), cl_nI (by omega)]; rfl, rfl⟩
  · refine PW.iload_n rfl rfl dX6_drops_8 ?_
    refine PW.i2l dX6_drops_9 ?_
    refine PW.lconst (v := 0) (by decide) dX6_drops_10 ?_
    refine PW.ldc2 cX6_232 dX6_drops_11 ?_
    refine PW.cS _ kX6_82 (m_inR n (h := 20) (n := 21) rfl mem) rfl rfl (Nat.le_of_ble_eq_true rfl) ⟨by decide, by decide⟩ ⟨Nat.zero_le _, Nat.zero_le _⟩ dX6_drops_14 ?_
    refine PW.if_eqB 40 (by decide) dX6_drops_17 (fun hc17 => ?_) (fun hc17 => ?_)
    · refine PW.iconst (v := -1) (by decide) dX6_drops_40 ?_
      refine PW.iret rfl (Nat.le_refl _) (Nat.le_refl _) dX6_drops_41 ?_
      first | exact ⟨by rw [dropsS, hc5]; rfl, rfl⟩ | exact ⟨by rw [dropsS, hc5, hc17]; rfl, rfl⟩ | exact ⟨by rw [dropsS, hc5, hc17, cl_nI (by omega), cl_nI (by omega)]; rfl, rfl⟩
    · obtain ⟨t', ht, rfl⟩ := inR_of hc5
      obtain ⟨n', hn, rfl⟩ := inR_of hc17
      refine PW.aload_n rfl rfl dX6_drops_20 ?_
      refine PW.aload_n rfl rfl dX6_drops_21 ?_
      refine PW.gR hS.1 (by decide) rfl fX6_32 dX6_drops_22 ?_
      refine PW.iload_n rfl rfl dX6_drops_25 ?_
      refine PW.aI hS.1 (by decide) rfl (by exact rfl) ⟨by omega, by decide⟩ (by first | exact hN.1 _ ht | exact (hM.2.2.2.2.2 _ ht).2.1 | exact rfl) dX6_drops_26 ?_
      refine PW.aload_n rfl rfl dX6_drops_27 ?_
      refine PW.gR hS.1 (by decide) rfl fX6_26 dX6_drops_28 ?_
      refine PW.iload_n rfl rfl dX6_drops_31 ?_
      refine PW.aI hS.1 (by decide) rfl (by exact rfl) ⟨by omega, by decide⟩ (by first | exact hN.1 _ ht | exact (hM.2.2.2.2.2 _ ht).2.1 | exact rfl) dX6_drops_32 ?_
      refine PW.iload_n rfl rfl dX6_drops_33 ?_
      refine PW.cV (ci := 6) (j := 0) _ hS.1 (by decide) rfl kX6_234 (m_dropsFrom hS hM hD (hw _ ht) (hD.2.2.2.2.2.2 _ ht).2.2.1 (by omega)) rfl rfl (Nat.le_of_ble_eq_true rfl) rfl ⟨by decide, by decide⟩ ⟨Nat.zero_le _, Nat.zero_le _⟩ dX6_drops_34 ?_
      refine PW.goto 41 (by decide) dX6_drops_37 ?_
      refine PW.iret rfl (Nat.le_refl _) (Nat.le_refl _) dX6_drops_41 ?_
      first | exact ⟨by rw [dropsS, hc5]; rfl, rfl⟩ | exact ⟨by rw [dropsS, hc5, hc17]; rfl, rfl⟩ | exact ⟨by rw [dropsS, hc5, hc17, cl_nI (by omega), cl_nI (by omega)]; rfl, rfl⟩
set_option maxHeartbeats 4000000 in
theorem x_lay (hS : St b s sc mem) (hX : XD mem b R) (hD : Dat R) (hN : XN mem 13 (R 1 0) w p d) (hw : ∀ t, t < R 1 0 → w t < R 0 0) (t n : Int32) : Rf 2 mX5_lay [.ref 9, .int t, .int n] mem (some (.int (layS R w t n))) mem := by
  have hT := hD.2.1
  have h6 := hD.1
  refine Ret.of (by decide) (Nat.le_of_ble_eq_true rfl) fun l G => ?_
  show PW _ _ _ _ [(0, _), (1, _), (2, _)] _ _ _
  have h25 : ∀ t' n' : Nat, t' < R 1 0 → n' < 21 → PW (l, G, mX5_lay, pw_rm 2 0 0, 0, 0) 0 0 25 [(0, .ref 9), (1, .int (nI t')), (2, .int (nI n')), (3, .int (nI 0)), (4, .int (nI 0))] [] mem (fun u m1 => u = some (.int (nI (layN R w t' n' (R 0 0)))) ∧ m1 = mem) := by
    intro t' n' ht hn
    have hwt := hw t' ht
    refine PW.up (fun j => [(0, .ref 9), (1, .int (nI t')), (2, .int (nI n')), (3, .int (nI (layN R w t' n' j))), (4, .int (nI j))]) (fun _ => mem) (R 0 0) (fun j hj ih => ?_) ?_
    · have el : layN R w t' n' (j + 1) = if behsN R (R 14 t') j n' = w t' then layN R w t' n' j ||| 2 ^ j else layN R w t' n' j := rfl
      have hbl := behsN_lt hD (u := R 14 t') hj n'
      refine PW.iload rfl dX5_lay_25 ?_
      refine PW.aload_n rfl rfl dX5_lay_27 ?_
      refine PW.gV hS.1 (by decide) rfl hS.2.1 fX5_58 dX5_lay_28 ?_
      refine PW.gI hS.1 (by have := hS.b; omega) (skR0 hS.b) (by first | exact hX.1 | exact hN.1 _ ht | exact (hX.2.2.2.2.2.2 _ ht).2.1 | exact rfl) fX5_206 dX5_lay_31 ?_
      refine PW.icmp_geN 81 (by decide) (by first | omega | (split <;> omega)) (by first | omega | (split <;> omega)) dX5_lay_34 (fun hc34 => by exfalso; omega) (fun hc34 => ?_)
      refine PW.aload_n rfl rfl dX5_lay_37 ?_
      refine PW.gV hS.1 (by decide) rfl hS.2.1 fX5_58 dX5_lay_38 ?_
      refine PW.iload rfl dX5_lay_41 ?_
      refine PW.aload_n rfl rfl dX5_lay_43 ?_
      refine PW.gV hS.1 (by decide) rfl hS.2.1 fX5_58 dX5_lay_44 ?_
      refine PW.gR hS.1 (by have := hS.b; omega) (skR14 hS.b) fX5_128 dX5_lay_47 ?_
      refine PW.iload_n rfl rfl dX5_lay_50 ?_
      refine PW.aI hS.1 (by have := hS.b; omega) (akR18 hS.b) (by exact rfl) ⟨by omega, by decide⟩ (by first | exact hX.1 | exact hN.1 _ ht | exact (hX.2.2.2.2.2.2 _ ht).2.1 | exact rfl) dX5_lay_51 ?_
      refine PW.iload_n rfl rfl dX5_lay_52 ?_
      refine PW.cV (ci := 2) (j := 0) _ hS.1 (by have := hS.b; omega) (skR0 hS.b) kX5_213 (x_behindNights hS hS.b hX hD hj (hD.2.2.2.2.2.2 _ ht).2.2.1 (by omega)) rfl rfl (Nat.le_of_ble_eq_true rfl) rfl ⟨by decide, by decide⟩ ⟨Nat.zero_le _, Nat.zero_le _⟩ dX5_lay_53 ?_
      refine PW.aload_n rfl rfl dX5_lay_56 ?_
      refine PW.gR hS.1 (by decide) rfl fX5_19 dX5_lay_57 ?_
      refine PW.gR hS.1 (by decide) rfl fX5_134 dX5_lay_60 ?_
      refine PW.iload_n rfl rfl dX5_lay_63 ?_
      refine PW.aI hS.1 (by decide) rfl (by exact rfl) ⟨by omega, by decide⟩ (by first | exact hX.1 | exact hN.1 _ ht | exact (hX.2.2.2.2.2.2 _ ht).2.1 | exact rfl) dX5_lay_64 ?_
      refine PW.icmp_neN 75 (by decide) (by first | omega | (split <;> omega)) (by first | omega | (split <;> omega)) dX5_lay_65 (fun hc65 => ?_) (fun hc65 => ?_)
      · refine PW.iincN rfl (by decide) dX5_lay_75 (?_ : PW _ _ _ _ [(0, _), (1, _), (2, _), (3, _), (4, _)] _ _ _)
        refine PW.goto 25 (by decide) dX5_lay_78 ?_
        first | (rw [el, if_neg hc65] at ih; exact ih) | (rw [el, if_pos hc65] at ih; exact ih)
      · refine PW.iload_n rfl rfl dX5_lay_68 ?_
        refine PW.iconst (v := nI 1) (by decide) dX5_lay_69 ?_
        refine PW.iload rfl dX5_lay_70 ?_
        refine PW.ishl1 (by omega) dX5_lay_72 ?_
        refine PW.iorN dX5_lay_73 ?_
        refine PW.istore_n rfl (by decide) dX5_lay_74 (?_ : PW _ _ _ _ [(0, _), (1, _), (2, _), (3, _), (4, _)] _ _ _)
        refine PW.iincN rfl (by decide) dX5_lay_75 (?_ : PW _ _ _ _ [(0, _), (1, _), (2, _), (3, _), (4, _)] _ _ _)
        refine PW.goto 25 (by decide) dX5_lay_78 ?_
        first | (rw [el, if_neg hc65] at ih; exact ih) | (rw [el, if_pos hc65] at ih; exact ih)
    · refine PW.iload rfl dX5_lay_25 ?_
      refine PW.aload_n rfl rfl dX5_lay_27 ?_
      refine PW.gV hS.1 (by decide) rfl hS.2.1 fX5_58 dX5_lay_28 ?_
      refine PW.gI hS.1 (by have := hS.b; omega) (skR0 hS.b) (by first | exact hX.1 | exact rfl) fX5_206 dX5_lay_31 ?_
      refine PW.icmp_geN 81 (by decide) (by first | omega | (split <;> omega)) (by first | omega | (split <;> omega)) dX5_lay_34 (fun hc34 => ?_) (fun hc34 => by exfalso; omega)
      refine PW.iload_n rfl rfl dX5_lay_81 ?_
      refine PW.iret rfl (Nat.le_refl _) (Nat.le_refl _) dX5_lay_82 ?_
      exact ⟨rfl, rfl⟩
  refine PW.aload_n rfl rfl dX5_lay_0 ?_
  refine PW.iload_n rfl rfl dX5_lay_1 ?_
  refine PW.cV (ci := 5) (j := 0) _ hS.1 (by decide) rfl kX5_122 (x_isThing hS hX hD t) rfl rfl (Nat.le_of_ble_eq_true rfl) rfl ⟨by decide, by decide⟩ ⟨Nat.zero_le _, Nat.zero_le _⟩ dX5_lay_2 ?_
  refine PW.if_eqB 18 (by decide) dX5_lay_5 (fun hc5 => ?_) (fun hc5 => ?_)
  · refine PW.iconst (v := -1) (by decide) dX5_lay_18 ?_
    refine PW.iret rfl (Nat.le_refl _) (Nat.le_refl _) dX5_lay_19 ?_
    first | exact ⟨by rw [layS, hc5]; rfl, rfl⟩ | exact ⟨by rw [layS, hc5, hc15]; rfl, rfl⟩
  · refine PW.iload_n rfl rfl dX5_lay_8 ?_
    refine PW.iconst (v := nI 0) (by decide) dX5_lay_9 ?_
    refine PW.bipush (v := nI 20) (by decide) dX5_lay_10 ?_
    refine PW.cS _ kX5_71 (x_inR n (h := 20) (by decide) mem) rfl rfl (Nat.le_of_ble_eq_true rfl) ⟨by decide, by decide⟩ ⟨Nat.zero_le _, Nat.zero_le _⟩ dX5_lay_12 ?_
    refine PW.if_neB 20 (by decide) dX5_lay_15 (fun hc15 => ?_) (fun hc15 => ?_)
    · obtain ⟨t', ht, rfl⟩ := inR_of hc5
      obtain ⟨n', hn, rfl⟩ := inR_of hc15
      refine PW.iconst (v := nI 0) (by decide) dX5_lay_20 ?_
      refine PW.istore_n rfl (by decide) dX5_lay_21 (?_ : PW _ _ _ _ [(0, _), (1, _), (2, _), (3, _)] _ _ _)
      refine PW.iconst (v := nI 0) (by decide) dX5_lay_22 ?_
      refine PW.istore (by decide) dX5_lay_23 (?_ : PW _ _ _ _ [(0, _), (1, _), (2, _), (3, _), (4, _)] _ _ _)
      rw [layS, hc5, hc15, cl_nI (by omega), cl_nI (by omega)]
      exact h25 t' n' ht hn
    · refine PW.iconst (v := -1) (by decide) dX5_lay_18 ?_
      refine PW.iret rfl (Nat.le_refl _) (Nat.le_refl _) dX5_lay_19 ?_
      first | exact ⟨by rw [layS, hc5]; rfl, rfl⟩ | exact ⟨by rw [layS, hc5, hc15]; rfl, rfl⟩
set_option maxHeartbeats 4000000 in
theorem m_lay (hS : St b s sc mem) (hM : MD mem R) (hD : Dat R) (hN : MN mem (R 1 0) w p d) (hw : ∀ t, t < R 1 0 → w t < R 0 0) (t n : Int32) : Rf 2 mX6_lay [.ref 95, .int t, .int n] mem (some (.int (layS R w t n))) mem := by
  have hT := hD.2.1
  have h6 := hD.1
  refine Ret.of (by decide) (Nat.le_of_ble_eq_true rfl) fun l G => ?_
  show PW _ _ _ _ [(0, _), (1, _), (2, _)] _ _ _
  have h27 : ∀ t' n' : Nat, t' < R 1 0 → n' < 21 → PW (l, G, mX6_lay, pw_rm 2 0 0, 0, 0) 0 0 27 [(0, .ref 95), (1, .int (nI t')), (2, .int (nI n')), (3, .int (nI 0)), (4, .int (nI 0))] [] mem (fun u m1 => u = some (.int (nI (layN R w t' n' (R 0 0)))) ∧ m1 = mem) := by
    intro t' n' ht hn
    have hwt := hw t' ht
    refine PW.up (fun j => [(0, .ref 95), (1, .int (nI t')), (2, .int (nI n')), (3, .int (nI (layN R w t' n' j))), (4, .int (nI j))]) (fun _ => mem) (R 0 0) (fun j hj ih => ?_) ?_
    · have el : layN R w t' n' (j + 1) = if behsN R (R 14 t') j n' = w t' then layN R w t' n' j ||| 2 ^ j else layN R w t' n' j := rfl
      have hbl := behsN_lt hD (u := R 14 t') hj n'
      refine PW.iload rfl dX6_lay_27 ?_
      refine PW.aload_n rfl rfl dX6_lay_29 ?_
      refine PW.gI hS.1 (by decide) rfl (by first | exact hM.1 | exact hN.1 _ ht | exact (hM.2.2.2.2.2 _ ht).2.1 | exact rfl) fX6_78 dX6_lay_30 ?_
      refine PW.icmp_geN 75 (by decide) (by first | omega | (split <;> omega)) (by first | omega | (split <;> omega)) dX6_lay_33 (fun hc33 => by exfalso; omega) (fun hc33 => ?_)
      refine PW.iload_n rfl rfl dX6_lay_36 ?_
      refine PW.aload_n rfl rfl dX6_lay_37 ?_
      refine PW.iload rfl dX6_lay_38 ?_
      refine PW.aload_n rfl rfl dX6_lay_40 ?_
      refine PW.gR hS.1 (by decide) rfl fX6_26 dX6_lay_41 ?_
      refine PW.iload_n rfl rfl dX6_lay_44 ?_
      refine PW.aI hS.1 (by decide) rfl (by exact rfl) ⟨by omega, by decide⟩ (by first | exact hM.1 | exact hN.1 _ ht | exact (hM.2.2.2.2.2 _ ht).2.1 | exact rfl) dX6_lay_45 ?_
      refine PW.iload_n rfl rfl dX6_lay_46 ?_
      refine PW.cV (ci := 6) (j := 0) _ hS.1 (by decide) rfl kX6_234 (m_dropsFrom hS hM hD hj (hD.2.2.2.2.2.2 _ ht).2.2.1 (by omega)) rfl rfl (Nat.le_of_ble_eq_true rfl) rfl ⟨by decide, by decide⟩ ⟨Nat.zero_le _, Nat.zero_le _⟩ dX6_lay_47 ?_
      refine PW.aload_n rfl rfl dX6_lay_50 ?_
      refine PW.gR hS.1 (by decide) rfl fX6_32 dX6_lay_51 ?_
      refine PW.iload_n rfl rfl dX6_lay_54 ?_
      refine PW.aI hS.1 (by decide) rfl (by exact rfl) ⟨by omega, by decide⟩ (by first | exact hM.1 | exact hN.1 _ ht | exact (hM.2.2.2.2.2 _ ht).2.1 | exact rfl) dX6_lay_55 ?_
      refine PW.icmp_neN 66 (by decide) (by first | omega | (split <;> omega)) (by first | omega | (split <;> omega)) dX6_lay_56 (fun hc56 => ?_) (fun hc56 => ?_)
      · refine PW.iconst (v := nI 0) (by decide) dX6_lay_66 ?_
        refine PW.iorZ dX6_lay_67 ?_
        refine PW.istore_n rfl (by decide) dX6_lay_68 (?_ : PW _ _ _ _ [(0, _), (1, _), (2, _), (3, _), (4, _)] _ _ _)
        refine PW.iincN rfl (by decide) dX6_lay_69 (?_ : PW _ _ _ _ [(0, _), (1, _), (2, _), (3, _), (4, _)] _ _ _)
        refine PW.goto 27 (by decide) dX6_lay_72 ?_
        first | (rw [el, if_neg hc56] at ih; exact ih) | (rw [el, if_pos hc56] at ih; exact ih)
      · refine PW.iconst (v := nI 1) (by decide) dX6_lay_59 ?_
        refine PW.iload rfl dX6_lay_60 ?_
        refine PW.ishl1 (by omega) dX6_lay_62 ?_
        refine PW.goto 67 (by decide) dX6_lay_63 ?_
        refine PW.iorN dX6_lay_67 ?_
        refine PW.istore_n rfl (by decide) dX6_lay_68 (?_ : PW _ _ _ _ [(0, _), (1, _), (2, _), (3, _), (4, _)] _ _ _)
        refine PW.iincN rfl (by decide) dX6_lay_69 (?_ : PW _ _ _ _ [(0, _), (1, _), (2, _), (3, _), (4, _)] _ _ _)
        refine PW.goto 27 (by decide) dX6_lay_72 ?_
        first | (rw [el, if_neg hc56] at ih; exact ih) | (rw [el, if_pos hc56] at ih; exact ih)
    · refine PW.iload rfl dX6_lay_27 ?_
      refine PW.aload_n rfl rfl dX6_lay_29 ?_
      refine PW.gI hS.1 (by decide) rfl (by first | exact hM.1 | exact rfl) fX6_78 dX6_lay_30 ?_
      refine PW.icmp_geN 75 (by decide) (by first | omega | (split <;> omega)) (by first | omega | (split <;> omega)) dX6_lay_33 (fun hc33 => ?_) (fun hc33 => by exfalso; omega)
      refine PW.iload_n rfl rfl dX6_lay_75 ?_
      refine PW.iret rfl (Nat.le_refl _) (Nat.le_refl _) dX6_lay_76 ?_
      exact ⟨rfl, rfl⟩
  refine PW.aload_n rfl rfl dX6_lay_0 ?_
  refine PW.iload_n rfl rfl dX6_lay_1 ?_
  refine PW.cV (ci := 6) (j := 0) _ hS.1 (by decide) rfl kX6_193 (m_isThing hS hM hD t) rfl rfl (Nat.le_of_ble_eq_true rfl) rfl ⟨by decide, by decide⟩ ⟨Nat.zero_le _, Nat.zero_le _⟩ dX6_lay_2 ?_
  refine PW.if_eqB 20 (by decide) dX6_lay_5 (fun hc5 => ?_) (fun hc5 => ?_)
  · refine PW.iconst (v := -1) (by decide) dX6_lay_20 ?_
    refine PW.iret rfl (Nat.le_refl _) (Nat.le_refl _) dX6_lay_21 ?_
    first | exact ⟨by rw [layS, hc5]; rfl, rfl⟩ | exact ⟨by rw [layS, hc5, hc17]; rfl, rfl⟩
  · refine PW.iload_n rfl rfl dX6_lay_8 ?_
    refine PW.i2l dX6_lay_9 ?_
    refine PW.lconst (v := 0) (by decide) dX6_lay_10 ?_
    refine PW.ldc2 cX6_232 dX6_lay_11 ?_
    refine PW.cS _ kX6_82 (m_inR n (h := 20) (n := 21) rfl mem) rfl rfl (Nat.le_of_ble_eq_true rfl) ⟨by decide, by decide⟩ ⟨Nat.zero_le _, Nat.zero_le _⟩ dX6_lay_14 ?_
    refine PW.if_neB 22 (by decide) dX6_lay_17 (fun hc17 => ?_) (fun hc17 => ?_)
    · obtain ⟨t', ht, rfl⟩ := inR_of hc5
      obtain ⟨n', hn, rfl⟩ := inR_of hc17
      refine PW.iconst (v := nI 0) (by decide) dX6_lay_22 ?_
      refine PW.istore_n rfl (by decide) dX6_lay_23 (?_ : PW _ _ _ _ [(0, _), (1, _), (2, _), (3, _)] _ _ _)
      refine PW.iconst (v := nI 0) (by decide) dX6_lay_24 ?_
      refine PW.istore (by decide) dX6_lay_25 (?_ : PW _ _ _ _ [(0, _), (1, _), (2, _), (3, _), (4, _)] _ _ _)
      rw [layS, hc5, hc17, cl_nI (by omega), cl_nI (by omega)]
      exact h27 t' n' ht hn
    · refine PW.iconst (v := -1) (by decide) dX6_lay_20 ?_
      refine PW.iret rfl (Nat.le_refl _) (Nat.le_refl _) dX6_lay_21 ?_
      first | exact ⟨by rw [layS, hc5]; rfl, rfl⟩ | exact ⟨by rw [layS, hc5, hc17]; rfl, rfl⟩
end HOL
