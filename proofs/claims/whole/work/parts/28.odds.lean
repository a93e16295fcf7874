/-! ===== odds: class ===== -/
def spN (R : DR) (u p : Nat) (c : Nat → Nat) : Nat → Nat → Nat
  | 0, _ => 0
  | j + 1, k => spN R u p c j k + (if k = behN R u j then c j * p else 0) + (if k = j then c j * (10 - p) else 0)
/-- the chances behind n nights, of a thing of bulk u that was in a -/
def chN (R : DR) (u p a : Nat) : Nat → Nat → Nat
  | 0, k => if k = a then 1 else 0
  | n + 1, k => spN R u p (chN R u p a n) (R 0 0) k
def s6 (f : Nat → Nat) : Nat := f 0 + f 1 + f 2 + f 3 + f 4 + f 5
theorem s6_one {v q : Nat} (hq : q < 6) : s6 (fun k => if k = q then v else 0) = v := by
  rcases (show q = 0 ∨ q = 1 ∨ q = 2 ∨ q = 3 ∨ q = 4 ∨ q = 5 by omega) with rfl | rfl | rfl | rfl | rfl | rfl <;> simp [s6]
theorem s6_le {f : Nat → Nat} {k : Nat} (hk : k < 6) : f k ≤ s6 f := by
  unfold s6
  rcases (show k = 0 ∨ k = 1 ∨ k = 2 ∨ k = 3 ∨ k = 4 ∨ k = 5 by omega) with rfl | rfl | rfl | rfl | rfl | rfl <;> omega
def preN (c : Nat → Nat) : Nat → Nat
  | 0 => 0
  | j + 1 => preN c j + c j
theorem preN_le (c : Nat → Nat) {j : Nat} (hj : j ≤ 6) : preN c j ≤ s6 c := by
  unfold s6
  rcases (show j = 0 ∨ j = 1 ∨ j = 2 ∨ j = 3 ∨ j = 4 ∨ j = 5 ∨ j = 6 by omega) with rfl | rfl | rfl | rfl | rfl | rfl | rfl <;> simp only [preN] <;> omega
theorem spN_sum {R : DR} (hD : Dat R) {u p : Nat} (hp : p ≤ 10) (c : Nat → Nat) : ∀ j, j ≤ R 0 0 → s6 (spN R u p c j) = 10 * preN c j
  | 0, _ => rfl
  | j + 1, hj => by
    have h6 := hD.1
    have ih := spN_sum hD (u := u) hp c j (by omega)
    have hb := behN_lt hD (u := u) (show j < R 0 0 by omega)
    have e1 := s6_one (v := c j * p) (q := behN R u j) (by omega)
    have e2 := s6_one (v := c j * (10 - p)) (q := j) (by omega)
    have e3 : c j * p + c j * (10 - p) = 10 * c j := by rw [← Nat.mul_add, show p + (10 - p) = 10 by omega, Nat.mul_comm]
    rw [preN]
    unfold s6 at ih e1 e2 ⊢
    simp only [spN]
    simp only at e1 e2
    omega
theorem chN_sum {R : DR} (hD : Dat R) {u p a : Nat} (hp : p ≤ 10) (ha : a < 6) : ∀ n, s6 (chN R u p a n) ≤ 10 ^ n
  | 0 => by
    have := s6_one (v := 1) ha
    show s6 (fun k => if k = a then 1 else 0) ≤ 1
    omega
  | n + 1 => by
    have ih := chN_sum hD (u := u) hp ha n
    have h1 := spN_sum hD (u := u) hp (chN R u p a n) (R 0 0) (Nat.le_refl _)
    have h2 := preN_le (chN R u p a n) hD.1
    show s6 (spN R u p (chN R u p a n) (R 0 0)) ≤ 10 ^ (n + 1)
    rw [h1, Nat.pow_succ]
    omega
theorem chN_le {R : DR} (hD : Dat R) {u p a k n : Nat} (hp : p ≤ 10) (ha : a < 6) (hk : k < 6) : chN R u p a n k ≤ 10 ^ n := Nat.le_trans (s6_le hk) (chN_sum hD hp ha n)
section ODDX
variable {b s : Nat} {sc : pw_E} {mem : pw_M} {R : DR} {w : Nat → Nat} {p : Int32} {d : Nat} {e K : Nat}
set_option maxHeartbeats 4000000 in
theorem x_spreadChance (hS : St b s sc mem) (hX : XD mem b R) (hD : Dat R) {u q : Nat} (hu : u ≤ 5) (hq : q ≤ 10) {c : Nat → Nat} (hc : ∀ k, k < 6 → iv mem 47 k = nI (c k)) : Ret 1 0 0 mX5_spreadChance [.ref 9, .int (nI u), .int (nI q)] mem (fun v m1 => v = none ∧ St b s sc m1 ∧ Ag (fun r => r ≠ 47 ∧ r ≠ 48) mem m1 ∧ ∀ k, k < 6 → iv m1 47 k = nI (spN R u q c (R 0 0) k)) := by
  have h6 := hD.1
  have hb := hS.b
  refine Ret.of (by decide) (Nat.le_of_ble_eq_true rfl) fun l G => ?_
  show PW _ _ _ _ [(0, _), (1, _), (2, _)] _ _ _
  refine PW.aload_n rfl rfl dX5_spreadChance_0 ?_
  refine PW.gR hS.1 (by decide) rfl fX5_52 dX5_spreadChance_1 ?_
  refine PW.iconst (v := nI 0) (by decide) dX5_spreadChance_4 ?_
  refine PW.dS _ kX5_222 (j_fill hS (by decide) rfl _) rfl rfl (Nat.le_of_ble_eq_true rfl) ⟨by decide, by decide⟩ ⟨Nat.zero_le _, Nat.zero_le _⟩ dX5_spreadChance_5 (fun v m1 q => ?_)
  obtain ⟨rfl, hS, hA0, hf⟩ := q
  refine PW.iconst (v := nI 0) (by decide) dX5_spreadChance_8 ?_
  refine PW.istore_n rfl (by decide) dX5_spreadChance_9 (?_ : PW _ _ _ _ [(0, _), (1, _), (2, _), (3, _)] _ _ _)
  skip
  refine PW.loop (I := fun j m => St b s sc m ∧ Ag (fun r => r ≠ 48) mem m ∧ ∀ k, k < 6 → iv m 48 k = nI (spN R u q c j k)) (fun j _ => [(0, .ref 9), (1, .int (nI u)), (2, .int (nI q)), (3, .int (nI j))]) (fun _ m => m) (R 0 0) (fun j m hj hI ih => ?_) (fun m hI => ?_) m1 ⟨hS, hA0, hf⟩
  · obtain ⟨hS, hA, hv⟩ := hI
    have hX2 := hX.ag hA (fun r h1 h2 => by omega)
    have hbl := behN_lt hD (u := u) hj
    have es : ∀ k, spN R u q c (j + 1) k = spN R u q c j k + (if k = behN R u j then c j * q else 0) + (if k = j then c j * (10 - q) else 0) := fun _ => rfl
    refine PW.iload_n rfl rfl dX5_spreadChance_10 ?_
    refine PW.aload_n rfl rfl dX5_spreadChance_11 ?_
    refine PW.gV hS.1 (by decide) rfl hS.2.1 fX5_58 dX5_spreadChance_12 ?_
    refine PW.gI hS.1 (by have := hS.b; omega) (skR0 hS.b) (hX2.1) fX5_206 dX5_spreadChance_15 ?_
    refine PW.icmp_geN 76 (by decide) (by first | omega | (split <;> omega)) (by first | omega | (split <;> omega)) dX5_spreadChance_18 (fun hc18 => by exfalso; omega) (fun hc18 => ?_)
    refine PW.aload_n rfl rfl dX5_spreadChance_21 ?_
    refine PW.gV hS.1 (by decide) rfl hS.2.1 fX5_58 dX5_spreadChance_22 ?_
    refine PW.iload_n rfl rfl dX5_spreadChance_25 ?_
    refine PW.iload_n rfl rfl dX5_spreadChance_26 ?_
    refine PW.cV (ci := 2) (j := 0) _ hS.1 (by have := hS.b; omega) (skR0 hS.b) kX5_275 (x_behindNight hS hS.b hX2 hD hj hu) rfl rfl (Nat.le_of_ble_eq_true rfl) rfl ⟨by decide, by decide⟩ ⟨Nat.zero_le _, Nat.zero_le _⟩ dX5_spreadChance_27 ?_
    refine PW.istore (by decide) dX5_spreadChance_30 (?_ : PW _ _ _ _ [(0, _), (1, _), (2, _), (3, _), (4, _)] _ _ _)
    refine PW.aload_n rfl rfl dX5_spreadChance_32 ?_
    refine PW.gR hS.1 (by decide) rfl fX5_52 dX5_spreadChance_33 ?_
    refine PW.iload rfl dX5_spreadChance_36 ?_
    refine PW.dup2 rfl rfl dX5_spreadChance_38 ?_
    refine PW.aI hS.1 (by decide) rfl (by exact rfl) ⟨by omega, by decide⟩ (hv _ (by omega)) dX5_spreadChance_39 ?_
    refine PW.aload_n rfl rfl dX5_spreadChance_40 ?_
    refine PW.gR hS.1 (by decide) rfl fX5_49 dX5_spreadChance_41 ?_
    refine PW.iload_n rfl rfl dX5_spreadChance_44 ?_
    refine PW.aI hS.1 (by decide) rfl (by exact rfl) ⟨by omega, by decide⟩ ((hA.iv (r := 47) (by decide) j).trans (hc j (by omega))) dX5_spreadChance_45 ?_
    refine PW.iload_n rfl rfl dX5_spreadChance_46 ?_
    refine PW.imulN dX5_spreadChance_47 ?_
    refine PW.iaddN dX5_spreadChance_48 ?_
    refine PW.uI hS (by decide) rfl (by exact rfl) ⟨by omega, by decide⟩ dX5_spreadChance_49 (fun hS hw49 => ?_)
    have hv2 : ∀ k, k < 6 → iv (wI m 48 (behN R u j) (nI (spN R u q c j (behN R u j) + c j * q))) 48 k = nI (spN R u q c j k + if k = behN R u j then c j * q else 0) := fun k hk => by rw [hw49]; by_cases h : k = behN R u j; (rw [if_pos h, if_pos h, h]); (rw [if_neg h, if_neg h]; exact hv k hk)
    refine PW.aload_n rfl rfl dX5_spreadChance_50 ?_
    refine PW.gR hS.1 (by decide) rfl fX5_52 dX5_spreadChance_51 ?_
    refine PW.iload_n rfl rfl dX5_spreadChance_54 ?_
    refine PW.dup2 rfl rfl dX5_spreadChance_55 ?_
    refine PW.aI hS.1 (by decide) rfl (by exact rfl) ⟨by omega, by decide⟩ (hv2 _ (by omega)) dX5_spreadChance_56 ?_
    refine PW.aload_n rfl rfl dX5_spreadChance_57 ?_
    refine PW.gR hS.1 (by decide) rfl fX5_49 dX5_spreadChance_58 ?_
    refine PW.iload_n rfl rfl dX5_spreadChance_61 ?_
    refine PW.aI hS.1 (by decide) rfl (by exact rfl) ⟨by omega, by decide⟩ ((iv_wI_ne (by decide)).trans ((hA.iv (r := 47) (by decide) j).trans (hc j (by omega)))) dX5_spreadChance_62 ?_
    refine PW.bipush (v := nI 10) (by decide) dX5_spreadChance_63 ?_
    refine PW.iload_n rfl rfl dX5_spreadChance_65 ?_
    refine PW.isubN (by omega) dX5_spreadChance_66 ?_
    refine PW.imulN dX5_spreadChance_67 ?_
    refine PW.iaddN dX5_spreadChance_68 ?_
    refine PW.uI hS (by decide) rfl (by exact rfl) ⟨by omega, by decide⟩ dX5_spreadChance_69 (fun hS hw69 => ?_)
    refine PW.iincN rfl (by decide) dX5_spreadChance_70 (?_ : PW _ _ _ _ [(0, _), (1, _), (2, _), (3, _), (4, _)] _ _ _)
    refine PW.goto 10 (by decide) dX5_spreadChance_73 ?_
    refine PW.drop _ (fun r h => List.mem_of_mem_take (i := 4) h) ?_
    refine ih _ ⟨hS, (hA.tr (Ag.wI (fun h => h rfl))).tr (Ag.wI (fun h => h rfl)), fun k hk => ?_⟩
    rw [hw69, es]
    by_cases h : k = j
    · rw [if_pos h, if_pos h, h]
    · rw [if_neg h, if_neg h, hv2 k hk]; rfl
  · obtain ⟨hS, hA, hv⟩ := hI
    have hX2 := hX.ag hA (fun r h1 h2 => by omega)
    refine PW.iload_n rfl rfl dX5_spreadChance_10 ?_
    refine PW.aload_n rfl rfl dX5_spreadChance_11 ?_
    refine PW.gV hS.1 (by decide) rfl hS.2.1 fX5_58 dX5_spreadChance_12 ?_
    refine PW.gI hS.1 (by have := hS.b; omega) (skR0 hS.b) (hX2.1) fX5_206 dX5_spreadChance_15 ?_
    refine PW.icmp_geN 76 (by decide) (by first | omega | (split <;> omega)) (by first | omega | (split <;> omega)) dX5_spreadChance_18 (fun hc18 => ?_) (fun hc18 => by exfalso; omega)
    refine PW.aload_n rfl rfl dX5_spreadChance_76 ?_
    refine PW.gR hS.1 (by decide) rfl fX5_52 dX5_spreadChance_77 ?_
    refine PW.iconst (v := nI 0) (by decide) dX5_spreadChance_80 ?_
    refine PW.aload_n rfl rfl dX5_spreadChance_81 ?_
    refine PW.gR hS.1 (by decide) rfl fX5_49 dX5_spreadChance_82 ?_
    refine PW.iconst (v := nI 0) (by decide) dX5_spreadChance_85 ?_
    refine PW.bipush (v := nI 6) (by decide) dX5_spreadChance_86 ?_
    refine PW.copy hS (by decide) (by decide) rfl rfl kX5_278 ⟨by decide, by decide⟩ (Nat.le_of_ble_eq_true rfl) dX5_spreadChance_88 (fun m1 hS hA88 hV88 => ?_)
    refine PW.vret rfl (Nat.le_refl _) (Nat.le_refl _) dX5_spreadChance_91 ?_
    exact ⟨rfl, hS, (hA.mono (fun r h => h.2)).tr (hA88.mono (fun r h => h.1)), fun k hk => (hV88 k hk).trans (hv k hk)⟩
theorem eu_half {x y : Nat} (h : y ≤ x) (h0 : 0 < y) : 2 * (y * (x % y)) < x * y := by
  have h1 := Nat.mod_add_div x y
  have h2 := Nat.mod_lt x h0
  have h3 : 0 < x / y := Nat.div_pos h h0
  have h4 : y ≤ y * (x / y) := Nat.le_mul_of_pos_right y h3
  have h5 : 2 * (x % y) < x := by omega
  calc 2 * (y * (x % y)) = (2 * (x % y)) * y := by rw [Nat.mul_comm y, Nat.mul_assoc]
    _ < x * y := Nat.mul_lt_mul_of_pos_right h5 h0
set_option maxHeartbeats 4000000 in
theorem x_commonDivisor {a c : Nat} (ha : a ≤ 1000000) (hc : c ≤ 1000000) (h0 : 0 < c) (mem : pw_M) : Rf 1 mX5_commonDivisor [.int (nI a), .int (nI c)] mem (some (.int (nI (Nat.gcd a c)))) mem := by
  refine Ret.of (by decide) (Nat.le_of_ble_eq_true rfl) fun l G => ?_
  show PW _ _ _ _ [(0, _), (1, _)] _ _ _
  refine PW.iload_n rfl rfl dX5_commonDivisor_0 ?_
  refine PW.istore_n rfl (by decide) dX5_commonDivisor_1 (?_ : PW _ _ _ _ [(0, _), (1, _), (2, _)] _ _ _)
  refine PW.iload_n rfl rfl dX5_commonDivisor_2 ?_
  refine PW.istore_n rfl (by decide) dX5_commonDivisor_3 (?_ : PW _ _ _ _ [(0, _), (1, _), (2, _), (3, _)] _ _ _)
  refine PW.iconst (v := nI 0) (by decide) dX5_commonDivisor_4 ?_
  refine PW.istore (by decide) dX5_commonDivisor_5 (?_ : PW _ _ _ _ [(0, _), (1, _), (2, _), (3, _), (4, _)] _ _ _)
  skip
  have hg : 0 < Nat.gcd a c := Nat.gcd_pos_of_pos_right a h0
  have hfin : ∀ x, Nat.gcd x 0 = Nat.gcd a c → (if 1 < x then x else 1) = Nat.gcd a c := fun x h => by
    rw [Nat.gcd_zero_right] at h
    split <;> omega
  refine PW.loop (σ := Nat × Nat) (I := fun i x => Nat.gcd x.1 x.2 = Nat.gcd a c ∧ x.1 ≤ 1000000 ∧ x.2 ≤ 1000000 ∧ ((i = 0 ∧ x.1 * x.2 < 2 ^ 41) ∨ (x.2 ≤ x.1 ∧ x.1 * x.2 < 2 ^ (42 - i)))) (fun i x => [(0, .int (nI a)), (1, .int (nI c)), (2, .int (nI x.1)), (3, .int (nI x.2)), (4, .int (nI i))]) (fun _ _ => mem) 64 (fun i x hi hI ih => ?_) (fun x hI => ?_) (a, c) ⟨rfl, ha, hc, Or.inl ⟨rfl, Nat.lt_of_le_of_lt (Nat.mul_le_mul ha hc) (by decide)⟩⟩
  · obtain ⟨x, y⟩ := x
    obtain ⟨g1, g2, g3, g4⟩ := hI
    simp only at g1 g2 g3 g4
    have next : y ≠ 0 → Nat.gcd y (x % y) = Nat.gcd a c ∧ y ≤ 1000000 ∧ x % y ≤ 1000000 ∧ ((i + 1 = 0 ∧ y * (x % y) < 2 ^ 41) ∨ (x % y ≤ y ∧ y * (x % y) < 2 ^ (42 - (i + 1)))) := fun hy => by
      have hm := Nat.mod_lt x (show 0 < y by omega)
      refine ⟨by rw [← g1, Nat.gcd_comm x y, Nat.gcd_rec y x, Nat.gcd_comm], g3, by omega, Or.inr ⟨by omega, ?_⟩⟩
      rcases g4 with ⟨h1, h2⟩ | ⟨h1, h2⟩
      · rw [h1]
        refine Nat.lt_of_le_of_lt ?_ h2
        rw [Nat.mul_comm]
        exact Nat.mul_le_mul_right y (Nat.mod_le x y)
      · have hh := eu_half h1 (show 0 < y by omega)
        have hpos : 0 < x * y := Nat.mul_pos (by omega) (by omega)
        by_cases hi2 : i < 42
        · rw [show 42 - i = (42 - (i + 1)) + 1 by omega, Nat.pow_succ] at h2
          omega
        · rw [show 42 - i = 0 by omega] at h2
          omega
    refine PW.iload rfl dX5_commonDivisor_7 ?_
    refine PW.bipush (v := nI 64) (by decide) dX5_commonDivisor_9 ?_
    refine PW.icmp_geN 34 (by decide) (by first | omega | (split <;> omega)) (by first | omega | (split <;> omega)) dX5_commonDivisor_11 (fun hc11 => by exfalso; omega) (fun hc11 => ?_)
    refine PW.iload_n rfl rfl dX5_commonDivisor_14 ?_
    refine PW.if_eqN 34 (by decide) (by first | omega | (split <;> omega)) dX5_commonDivisor_15 (fun hc15 => ?_) (fun hc15 => ?_)
    · refine PW.iconst (v := nI 1) (by decide) dX5_commonDivisor_34 ?_
      refine PW.iload_n rfl rfl dX5_commonDivisor_35 ?_
      refine PW.mmaxN kX5_201 ⟨by decide, by decide⟩ ⟨Nat.zero_le _, Nat.zero_le _⟩ (Nat.le_of_ble_eq_true rfl) (by first | omega | (split <;> omega)) (by first | omega | (split <;> omega)) dX5_commonDivisor_36 ?_
      refine PW.iret rfl (Nat.le_refl _) (Nat.le_refl _) dX5_commonDivisor_39 ?_
      refine ⟨?_, rfl⟩
      rw [hfin x (by have h : y = 0 := hc15; rw [h] at g1; exact g1)]
    · refine PW.iload_n rfl rfl dX5_commonDivisor_18 ?_
      refine PW.iload_n rfl rfl dX5_commonDivisor_19 ?_
      refine PW.iremN (by omega) dX5_commonDivisor_20 ?_
      refine PW.istore (by decide) dX5_commonDivisor_21 (?_ : PW _ _ _ _ [(0, _), (1, _), (2, _), (3, _), (4, _), (5, _)] _ _ _)
      refine PW.iload_n rfl rfl dX5_commonDivisor_23 ?_
      refine PW.istore_n rfl (by decide) dX5_commonDivisor_24 (?_ : PW _ _ _ _ [(0, _), (1, _), (2, _), (3, _), (4, _), (5, _)] _ _ _)
      refine PW.iload rfl dX5_commonDivisor_25 ?_
      refine PW.istore_n rfl (by decide) dX5_commonDivisor_27 (?_ : PW _ _ _ _ [(0, _), (1, _), (2, _), (3, _), (4, _), (5, _)] _ _ _)
      refine PW.iincN rfl (by decide) dX5_commonDivisor_28 (?_ : PW _ _ _ _ [(0, _), (1, _), (2, _), (3, _), (4, _), (5, _)] _ _ _)
      refine PW.goto 7 (by decide) dX5_commonDivisor_31 ?_
      refine PW.drop _ (fun r h => List.mem_of_mem_take (i := 5) h) ?_
      exact ih (y, x % y) (next hc15)
  · obtain ⟨x, y⟩ := x
    obtain ⟨g1, g2, g3, g4⟩ := hI
    simp only at g1 g2 g3 g4
    have hy : y = 0 := by
      rcases g4 with ⟨h1, _⟩ | ⟨h1, h2⟩
      · omega
      · refine Classical.byContradiction fun hy => ?_
        have hpos : 0 < x * y := Nat.mul_pos (by omega) (by omega)
        rw [show 42 - 64 = 0 from rfl] at h2
        omega
    refine PW.iload rfl dX5_commonDivisor_7 ?_
    refine PW.bipush (v := nI 64) (by decide) dX5_commonDivisor_9 ?_
    refine PW.icmp_geN 34 (by decide) (by first | omega | (split <;> omega)) (by first | omega | (split <;> omega)) dX5_commonDivisor_11 (fun hc11 => ?_) (fun hc11 => by exfalso; omega)
    refine PW.iconst (v := nI 1) (by decide) dX5_commonDivisor_34 ?_
    refine PW.iload_n rfl rfl dX5_commonDivisor_35 ?_
    refine PW.mmaxN kX5_201 ⟨by decide, by decide⟩ ⟨Nat.zero_le _, Nat.zero_le _⟩ (Nat.le_of_ble_eq_true rfl) (by first | omega | (split <;> omega)) (by first | omega | (split <;> omega)) dX5_commonDivisor_36 ?_
    refine PW.iret rfl (Nat.le_refl _) (Nat.le_refl _) dX5_commonDivisor_39 ?_
    refine ⟨?_, rfl⟩
    rw [hfin x (by rw [hy] at g1; exact g1)]
end ODDX
def oddS (R : DR) (w : Nat → Nat) (t k q n x : Int32) : Int32 := if inR t (R 1 0) = true ∧ inR k (R 0 0) = true ∧ inR x 2 = true ∧ inR q 11 = true ∧ inR n 7 = true then nI ((if x = 0 then chN R (R 14 (cl t)) (cl q) (w (cl t)) (cl n) (cl k) else 10 ^ cl n) / Nat.gcd (chN R (R 14 (cl t)) (cl q) (w (cl t)) (cl n) (cl k)) (10 ^ cl n)) else -1
section ODDZ
variable {b s : Nat} {sc : pw_E} {mem : pw_M} {R : DR} {w : Nat → Nat} {p : Int32} {d : Nat} {e K : Nat}
set_option maxHeartbeats 4000000 in
theorem x_odds (hS : St b s sc mem) (hX : XD mem b R) (hD : Dat R) (hN : XN mem 13 (R 1 0) w p d) (hw : ∀ t, t < R 1 0 → w t < R 0 0) (t k q n x : Int32) : Ret 2 0 0 mX5_odds [.ref 9, .int t, .int k, .int q, .int n, .int x] mem (fun v m1 => v = some (.int (oddS R w t k q n x)) ∧ St b s sc m1 ∧ Ag (fun r => r ≠ 47 ∧ r ≠ 48) mem m1) := by
  have h6 := hD.1
  have hT := hD.2.1
  have hb := hS.b
  by_cases hg : inR t (R 1 0) = true ∧ inR k (R 0 0) = true ∧ inR x 2 = true ∧ inR q 11 = true ∧ inR n 7 = true
  · rw [oddS, if_pos hg]
    obtain ⟨g1, g2, g3, g4, g5⟩ := hg
    obtain ⟨t, ht, rfl⟩ := inR_of g1
    obtain ⟨k, hk, rfl⟩ := inR_of g2
    obtain ⟨x, hx, rfl⟩ := inR_of g3
    obtain ⟨q, hq, rfl⟩ := inR_of g4
    obtain ⟨n, hn, rfl⟩ := inR_of g5
    rw [cl_nI (by omega), cl_nI (by omega), cl_nI (by omega), cl_nI (by omega)]
    have hwt := hw t ht
    have d14 := (hD.2.2.2.2.2.2 t ht).2.2.1
    refine Ret.of (by decide) (Nat.le_of_ble_eq_true rfl) fun l G => ?_
    show PW _ _ _ _ [(0, _), (1, _), (2, _), (3, _), (4, _), (5, _)] _ _ _
    refine PW.aload_n rfl rfl dX5_odds_0 ?_
    refine PW.iload_n rfl rfl dX5_odds_1 ?_
    refine PW.cV (ci := 5) (j := 0) _ hS.1 (by decide) rfl kX5_122 (x_isThing hS hX hD _) rfl rfl (Nat.le_of_ble_eq_true rfl) rfl ⟨by decide, by decide⟩ ⟨Nat.zero_le _, Nat.zero_le _⟩ dX5_odds_2 ?_
    refine PW.if_eqB 26 (by decide) dX5_odds_5 (fun hc5 => by (first | (rw [g1] at hc5; cases hc5) | (rw [g2] at hc5; cases hc5) | (rw [g3] at hc5; cases hc5) | (rw [g4] at hc5; cases hc5) | (rw [g5] at hc5; cases hc5))) (fun hc5 => ?_)
    refine PW.aload_n rfl rfl dX5_odds_8 ?_
    refine PW.iload_n rfl rfl dX5_odds_9 ?_
    refine PW.cV (ci := 5) (j := 0) _ hS.1 (by decide) rfl kX5_93 (x_isPocket hS hX hD _) rfl rfl (Nat.le_of_ble_eq_true rfl) rfl ⟨by decide, by decide⟩ ⟨Nat.zero_le _, Nat.zero_le _⟩ dX5_odds_10 ?_
    refine PW.if_eqB 26 (by decide) dX5_odds_13 (fun hc13 => by (first | (rw [g1] at hc13; cases hc13) | (rw [g2] at hc13; cases hc13) | (rw [g3] at hc13; cases hc13) | (rw [g4] at hc13; cases hc13) | (rw [g5] at hc13; cases hc13))) (fun hc13 => ?_)
    refine PW.iload rfl dX5_odds_16 ?_
    refine PW.iconst (v := nI 0) (by decide) dX5_odds_18 ?_
    refine PW.iconst (v := nI 1) (by decide) dX5_odds_19 ?_
    refine PW.cS _ kX5_71 (x_inR (nI x) (h := 1) (by decide) mem) rfl rfl (Nat.le_of_ble_eq_true rfl) ⟨by decide, by decide⟩ ⟨Nat.zero_le _, Nat.zero_le _⟩ dX5_odds_20 ?_
    refine PW.if_neB 28 (by decide) dX5_odds_23 (fun hc23 => ?_) (fun hc23 => by (first | (rw [g1] at hc23; cases hc23) | (rw [g2] at hc23; cases hc23) | (rw [g3] at hc23; cases hc23) | (rw [g4] at hc23; cases hc23) | (rw [g5] at hc23; cases hc23)))
    refine PW.iload_n rfl rfl dX5_odds_28 ?_
    refine PW.iconst (v := nI 0) (by decide) dX5_odds_29 ?_
    refine PW.bipush (v := nI 10) (by decide) dX5_odds_30 ?_
    refine PW.cS _ kX5_71 (x_inR (nI q) (h := 10) (by decide) mem) rfl rfl (Nat.le_of_ble_eq_true rfl) ⟨by decide, by decide⟩ ⟨Nat.zero_le _, Nat.zero_le _⟩ dX5_odds_32 ?_
    refine PW.if_eqB 49 (by decide) dX5_odds_35 (fun hc35 => by (first | (rw [g1] at hc35; cases hc35) | (rw [g2] at hc35; cases hc35) | (rw [g3] at hc35; cases hc35) | (rw [g4] at hc35; cases hc35) | (rw [g5] at hc35; cases hc35))) (fun hc35 => ?_)
    refine PW.iload rfl dX5_odds_38 ?_
    refine PW.iconst (v := nI 0) (by decide) dX5_odds_40 ?_
    refine PW.bipush (v := nI 6) (by decide) dX5_odds_41 ?_
    refine PW.cS _ kX5_71 (x_inR (nI n) (h := 6) (by decide) mem) rfl rfl (Nat.le_of_ble_eq_true rfl) ⟨by decide, by decide⟩ ⟨Nat.zero_le _, Nat.zero_le _⟩ dX5_odds_43 ?_
    refine PW.if_neB 51 (by decide) dX5_odds_46 (fun hc46 => ?_) (fun hc46 => by (first | (rw [g1] at hc46; cases hc46) | (rw [g2] at hc46; cases hc46) | (rw [g3] at hc46; cases hc46) | (rw [g4] at hc46; cases hc46) | (rw [g5] at hc46; cases hc46)))
    refine PW.aload_n rfl rfl dX5_odds_51 ?_
    refine PW.gR hS.1 (by decide) rfl fX5_49 dX5_odds_52 ?_
    refine PW.iconst (v := nI 0) (by decide) dX5_odds_55 ?_
    refine PW.dS _ kX5_222 (j_fill hS (by decide) rfl _) rfl rfl (Nat.le_of_ble_eq_true rfl) ⟨by decide, by decide⟩ ⟨Nat.zero_le _, Nat.zero_le _⟩ dX5_odds_56 (fun v m1 q => ?_)
    obtain ⟨rfl, hS, hA0, hf⟩ := q
    refine PW.aload_n rfl rfl dX5_odds_59 ?_
    refine PW.gR hS.1 (by decide) rfl fX5_49 dX5_odds_60 ?_
    refine PW.aload_n rfl rfl dX5_odds_63 ?_
    refine PW.gR hS.1 (by decide) rfl fX5_19 dX5_odds_64 ?_
    refine PW.gR hS.1 (by decide) rfl fX5_134 dX5_odds_67 ?_
    refine PW.iload_n rfl rfl dX5_odds_70 ?_
    refine PW.aI hS.1 (by decide) rfl (by exact rfl) ⟨by omega, by decide⟩ ((hA0.iv (r := 14) (by decide) t).trans (hN.1 t ht)) dX5_odds_71 ?_
    refine PW.iconst (v := nI 1) (by decide) dX5_odds_72 ?_
    refine PW.uI hS (by decide) rfl (by exact rfl) ⟨by omega, by decide⟩ dX5_odds_73 (fun hS hw73 => ?_)
    refine PW.iconst (v := nI 1) (by decide) dX5_odds_74 ?_
    refine PW.istore (by decide) dX5_odds_75 (?_ : PW _ _ _ _ [(0, _), (1, _), (2, _), (3, _), (4, _), (5, _), (6, _)] _ _ _)
    refine PW.iconst (v := nI 0) (by decide) dX5_odds_77 ?_
    refine PW.istore (by decide) dX5_odds_78 (?_ : PW _ _ _ _ [(0, _), (1, _), (2, _), (3, _), (4, _), (5, _), (6, _), (7, _)] _ _ _)
    skip
    refine PW.loop (I := fun j m => St b s sc m ∧ Ag (fun r => r ≠ 47 ∧ r ≠ 48) mem m ∧ ∀ i, i < 6 → iv m 47 i = nI (chN R (R 14 t) q (w t) j i)) (fun j _ => [(0, .ref 9), (1, .int (nI t)), (2, .int (nI k)), (3, .int (nI q)), (4, .int (nI n)), (5, .int (nI x)), (6, .int (nI (10 ^ j))), (7, .int (nI j))]) (fun _ m => m) n (fun j m hj hI ih => ?_) (fun m hI => ?_) _ ⟨hS, (hA0.mono (fun r h => h.1)).tr (Ag.wI (fun h => h.1 rfl)), fun i hi => ?_⟩
    · obtain ⟨hS, hA, hv⟩ := hI
      have hX2 := hX.ag hA (fun r h1 h2 => ⟨by omega, by omega⟩)
      have e10 : 10 ^ (j + 1) = 10 ^ j * 10 := Nat.pow_succ ..
      rw [e10] at ih
      refine PW.iload rfl dX5_odds_80 ?_
      refine PW.iload rfl dX5_odds_82 ?_
      refine PW.icmp_geN 114 (by decide) (by first | omega | (split <;> omega)) (by first | omega | (split <;> omega)) dX5_odds_84 (fun hc84 => by (exfalso; omega)) (fun hc84 => ?_)
      refine PW.aload_n rfl rfl dX5_odds_87 ?_
      refine PW.aload_n rfl rfl dX5_odds_88 ?_
      refine PW.gV hS.1 (by decide) rfl hS.2.1 fX5_58 dX5_odds_89 ?_
      refine PW.gR hS.1 (by have := hS.b; omega) (skR14 hS.b) fX5_128 dX5_odds_92 ?_
      refine PW.iload_n rfl rfl dX5_odds_95 ?_
      refine PW.aI hS.1 (by have := hS.b; omega) (akR18 hS.b) (by exact rfl) ⟨by omega, by decide⟩ ((hX2.2.2.2.2.2.2 t ht).2.1) dX5_odds_96 ?_
      refine PW.iload_n rfl rfl dX5_odds_97 ?_
      refine PW.dV (ci := 5) (j := 0) _ hS.1 (by decide) rfl kX5_228 (x_spreadChance hS hX2 hD d14 (by omega) hv) rfl rfl (Nat.le_of_ble_eq_true rfl) rfl ⟨by decide, by decide⟩ ⟨Nat.zero_le _, Nat.zero_le _⟩ dX5_odds_98 (fun v m1 q => ?_)
      obtain ⟨rfl, hS, hA1, hv1⟩ := q
      refine PW.iload rfl dX5_odds_101 ?_
      refine PW.bipush (v := nI 10) (by decide) dX5_odds_103 ?_
      refine PW.imulN dX5_odds_105 ?_
      refine PW.istore (by decide) dX5_odds_106 (?_ : PW _ _ _ _ [(0, _), (1, _), (2, _), (3, _), (4, _), (5, _), (6, _), (7, _)] _ _ _)
      refine PW.iincN rfl (by decide) dX5_odds_108 (?_ : PW _ _ _ _ [(0, _), (1, _), (2, _), (3, _), (4, _), (5, _), (6, _), (7, _)] _ _ _)
      refine PW.goto 80 (by decide) dX5_odds_111 ?_
      exact ih _ ⟨hS, hA.tr hA1, hv1⟩
    · obtain ⟨hS, hA, hv⟩ := hI
      have hup := chN_le hD (u := R 14 t) (p := q) (a := w t) (k := k) (n := n) (by omega) (by omega) (by omega)
      have h10 : 10 ^ n ≤ 1000000 := Nat.pow_le_pow_right (n := 10) (by decide) (show n ≤ 6 by omega)
      have h10p : 0 < 10 ^ n := Nat.pow_pos (by decide)
      have hvk := hv k (by omega)
      generalize 10 ^ n = lo at hup h10 h10p ⊢
      generalize chN R (R 14 t) q (w t) n k = up at hup hvk ⊢
      have hgp : 0 < Nat.gcd up lo := Nat.gcd_pos_of_pos_right up h10p
      have hgl : Nat.gcd up lo ≤ lo := Nat.gcd_le_right up h10p
      refine PW.iload rfl dX5_odds_80 ?_
      refine PW.iload rfl dX5_odds_82 ?_
      refine PW.icmp_geN 114 (by decide) (by first | omega | (split <;> omega)) (by first | omega | (split <;> omega)) dX5_odds_84 (fun hc84 => ?_) (fun hc84 => by (exfalso; omega))
      refine PW.aload_n rfl rfl dX5_odds_114 ?_
      refine PW.gR hS.1 (by decide) rfl fX5_49 dX5_odds_115 ?_
      refine PW.iload_n rfl rfl dX5_odds_118 ?_
      refine PW.aI hS.1 (by decide) rfl (by exact rfl) ⟨by omega, by decide⟩ (hvk) dX5_odds_119 ?_
      refine PW.istore (by decide) dX5_odds_120 (?_ : PW _ _ _ _ [(0, _), (1, _), (2, _), (3, _), (4, _), (5, _), (6, _), (7, _)] _ _ _)
      refine PW.iload rfl dX5_odds_122 ?_
      refine PW.iload rfl dX5_odds_124 ?_
      refine PW.cS _ kX5_232 (x_commonDivisor (by omega) (by omega) h10p m) rfl rfl (Nat.le_of_ble_eq_true rfl) ⟨by decide, by decide⟩ ⟨Nat.zero_le _, Nat.zero_le _⟩ dX5_odds_126 ?_
      refine PW.istore (by decide) dX5_odds_129 (?_ : PW _ _ _ _ [(0, _), (1, _), (2, _), (3, _), (4, _), (5, _), (6, _), (7, _), (8, _)] _ _ _)
      refine PW.iload rfl dX5_odds_131 ?_
      refine PW.if_ne 141 (by decide) dX5_odds_133 (fun hc133 => ?_) (fun hc133 => ?_)
      · refine PW.iload rfl dX5_odds_141 ?_
        refine PW.iload rfl dX5_odds_143 ?_
        refine PW.idivN (by omega) dX5_odds_145 ?_
        refine PW.iret rfl (Nat.le_refl _) (Nat.le_refl _) dX5_odds_146 ?_
        first | exact ⟨by rw [if_pos hc133], hS, hA⟩ | exact ⟨by rw [if_neg hc133], hS, hA⟩
      · refine PW.iload rfl dX5_odds_136 ?_
        refine PW.goto 143 (by decide) dX5_odds_138 ?_
        refine PW.iload rfl dX5_odds_143 ?_
        refine PW.idivN (by omega) dX5_odds_145 ?_
        refine PW.iret rfl (Nat.le_refl _) (Nat.le_refl _) dX5_odds_146 ?_
        first | exact ⟨by rw [if_pos hc133], hS, hA⟩ | exact ⟨by rw [if_neg hc133], hS, hA⟩
    · rw [hw73]
      show _ = nI (if i = w t then 1 else 0)
      by_cases h : i = w t
      · rw [if_pos h, if_pos h]
      · rw [if_neg h, if_neg h]; exact hf i hi
  · rw [oddS, if_neg hg]
    refine Ret.of (by decide) (Nat.le_of_ble_eq_true rfl) fun l G => ?_
    show PW _ _ _ _ [(0, _), (1, _), (2, _), (3, _), (4, _), (5, _)] _ _ _
    refine PW.aload_n rfl rfl dX5_odds_0 ?_
    refine PW.iload_n rfl rfl dX5_odds_1 ?_
    refine PW.cV (ci := 5) (j := 0) _ hS.1 (by decide) rfl kX5_122 (x_isThing hS hX hD _) rfl rfl (Nat.le_of_ble_eq_true rfl) rfl ⟨by decide, by decide⟩ ⟨Nat.zero_le _, Nat.zero_le _⟩ dX5_odds_2 ?_
    refine PW.if_eqB 26 (by decide) dX5_odds_5 (fun hc5 => ?_) (fun hc5 => ?_)
    · refine PW.iconst (v := -1) (by decide) dX5_odds_26 ?_
      refine PW.iret rfl (Nat.le_refl _) (Nat.le_refl _) dX5_odds_27 ?_
      exact ⟨rfl, hS, Ag.rf⟩
    · refine PW.aload_n rfl rfl dX5_odds_8 ?_
      refine PW.iload_n rfl rfl dX5_odds_9 ?_
      refine PW.cV (ci := 5) (j := 0) _ hS.1 (by decide) rfl kX5_93 (x_isPocket hS hX hD _) rfl rfl (Nat.le_of_ble_eq_true rfl) rfl ⟨by decide, by decide⟩ ⟨Nat.zero_le _, Nat.zero_le _⟩ dX5_odds_10 ?_
      refine PW.if_eqB 26 (by decide) dX5_odds_13 (fun hc13 => ?_) (fun hc13 => ?_)
      · refine PW.iconst (v := -1) (by decide) dX5_odds_26 ?_
        refine PW.iret rfl (Nat.le_refl _) (Nat.le_refl _) dX5_odds_27 ?_
        exact ⟨rfl, hS, Ag.rf⟩
      · refine PW.iload rfl dX5_odds_16 ?_
        refine PW.iconst (v := nI 0) (by decide) dX5_odds_18 ?_
        refine PW.iconst (v := nI 1) (by decide) dX5_odds_19 ?_
        refine PW.cS _ kX5_71 (x_inR x (h := 1) (by decide) mem) rfl rfl (Nat.le_of_ble_eq_true rfl) ⟨by decide, by decide⟩ ⟨Nat.zero_le _, Nat.zero_le _⟩ dX5_odds_20 ?_
        refine PW.if_neB 28 (by decide) dX5_odds_23 (fun hc23 => ?_) (fun hc23 => ?_)
        · refine PW.iload_n rfl rfl dX5_odds_28 ?_
          refine PW.iconst (v := nI 0) (by decide) dX5_odds_29 ?_
          refine PW.bipush (v := nI 10) (by decide) dX5_odds_30 ?_
          refine PW.cS _ kX5_71 (x_inR q (h := 10) (by decide) mem) rfl rfl (Nat.le_of_ble_eq_true rfl) ⟨by decide, by decide⟩ ⟨Nat.zero_le _, Nat.zero_le _⟩ dX5_odds_32 ?_
          refine PW.if_eqB 49 (by decide) dX5_odds_35 (fun hc35 => ?_) (fun hc35 => ?_)
          · refine PW.iconst (v := -1) (by decide) dX5_odds_49 ?_
            refine PW.iret rfl (Nat.le_refl _) (Nat.le_refl _) dX5_odds_50 ?_
            exact ⟨rfl, hS, Ag.rf⟩
          · refine PW.iload rfl dX5_odds_38 ?_
            refine PW.iconst (v := nI 0) (by decide) dX5_odds_40 ?_
            refine PW.bipush (v := nI 6) (by decide) dX5_odds_41 ?_
            refine PW.cS _ kX5_71 (x_inR n (h := 6) (by decide) mem) rfl rfl (Nat.le_of_ble_eq_true rfl) ⟨by decide, by decide⟩ ⟨Nat.zero_le _, Nat.zero_le _⟩ dX5_odds_43 ?_
            refine PW.if_neB 51 (by decide) dX5_odds_46 (fun hc46 => by exact absurd ⟨hc5, hc13, hc23, hc35, hc46⟩ hg) (fun hc46 => ?_)
            refine PW.iconst (v := -1) (by decide) dX5_odds_49 ?_
            refine PW.iret rfl (Nat.le_refl _) (Nat.le_refl _) dX5_odds_50 ?_
            exact ⟨rfl, hS, Ag.rf⟩
        · refine PW.iconst (v := -1) (by decide) dX5_odds_26 ?_
          refine PW.iret rfl (Nat.le_refl _) (Nat.le_refl _) dX5_odds_27 ?_
          exact ⟨rfl, hS, Ag.rf⟩
end ODDZ
