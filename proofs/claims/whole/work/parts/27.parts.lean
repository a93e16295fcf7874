/-! ===== parts, now: class and model ===== -/
def swN (R : DR) (a : Nat) : Nat → Nat
  | 0 => a
  | j + 1 => if (swN R a j).testBit j then swN R a j ||| R 9 j else swN R a j
def roN (R : DR) : Nat → Nat → Nat
  | 0, a => a
  | n + 1, a => swN R (roN R n a) (R 0 0)
def CL (R : DR) (c : Nat) : Prop := ∀ j, j < R 0 0 → c.testBit j = true → c ||| R 9 j = c
def seN (R : DR) : Nat → Nat × Nat
  | 0 => (0, 0)
  | k + 1 => if (seN R k).1.testBit k then seN R k else ((seN R k).1 ||| roN R (R 0 0 - 1) (2 ^ k), (seN R k).2 + 1)
theorem swN_or (R : DR) (a c : Nat) : ∀ n, swN R (a ||| c) n = swN R a n ||| swN R c n
  | 0 => rfl
  | n + 1 => by
    rw [swN, swN, swN, swN_or R a c n, Nat.testBit_or]
    generalize swN R a n = x
    generalize swN R c n = y
    generalize R 9 n = z
    cases hx : x.testBit n <;> cases hy : y.testBit n <;> simp only [Bool.or_false, Bool.or_true, Bool.false_eq_true, if_true, if_false] <;> refine Nat.eq_of_testBit_eq fun i => ?_ <;> simp only [Nat.testBit_or] <;> cases x.testBit i <;> cases y.testBit i <;> cases z.testBit i <;> rfl
theorem swN_sub (R : DR) (a t : Nat) (h : a.testBit t = true) : ∀ n, (swN R a n).testBit t = true
  | 0 => h
  | n + 1 => by
    rw [swN]
    split
    · rw [Nat.testBit_or, swN_sub R a t h n, Bool.true_or]
    · exact swN_sub R a t h n
theorem swN_sub2 (R : DR) (a t n : Nat) (h : (swN R a n).testBit t = true) : ∀ i, (swN R a (n + i)).testBit t = true
  | 0 => h
  | i + 1 => by
    rw [show n + (i + 1) = (n + i) + 1 by omega, swN]
    split
    · rw [Nat.testBit_or, swN_sub2 R a t n h i, Bool.true_or]
    · exact swN_sub2 R a t n h i
theorem swN_lt {R : DR} (hD : Dat R) {a : Nat} (h : a < 2 ^ R 0 0) : ∀ n, n ≤ R 0 0 → swN R a n < 2 ^ R 0 0
  | 0, _ => h
  | n + 1, hn => by
    have h6 := hD.1
    have ih := swN_lt hD h n (by omega)
    rw [swN]
    split
    · exact Nat.or_lt_two_pow ih (hD.2.2.2.2.1 n (by omega)).2.2.1
    · exact ih
theorem swN_cl {R : DR} {c : Nat} (h : CL R c) : ∀ n, n ≤ R 0 0 → swN R c n = c
  | 0, _ => rfl
  | n + 1, hn => by
    rw [swN, swN_cl h n (by omega)]
    split
    · next q => exact h n (by omega) q
    · rfl
theorem cl_of {R : DR} {a : Nat} (h : swN R a (R 0 0) = a) : CL R a := by
  have hj : ∀ j, j ≤ R 0 0 → swN R a j = a := fun j hj => by
    refine Nat.eq_of_testBit_eq fun i => ?_
    cases hi : a.testBit i
    · cases hs : (swN R a j).testBit i
      · rfl
      · have := swN_sub2 R a i j hs (R 0 0 - j)
        rw [show j + (R 0 0 - j) = R 0 0 by omega, h, hi] at this
        cases this
    · exact swN_sub R a i hi j
  intro j h1 h2
  have e := hj (j + 1) (by omega)
  rw [swN, hj j (by omega), if_pos h2] at e
  exact e
theorem CL.or {R : DR} {a c : Nat} (h1 : CL R a) (h2 : CL R c) : CL R (a ||| c) := cl_of (by rw [swN_or, swN_cl h1 _ (Nat.le_refl _), swN_cl h2 _ (Nat.le_refl _)])
theorem roN_lt {R : DR} (hD : Dat R) {a : Nat} (h : a < 2 ^ R 0 0) : ∀ n, roN R n a < 2 ^ R 0 0
  | 0 => h
  | n + 1 => swN_lt hD (roN_lt hD h n) _ (Nat.le_refl _)
theorem roN_or (R : DR) (a c : Nat) : ∀ n, roN R n (a ||| c) = roN R n a ||| roN R n c
  | 0 => rfl
  | n + 1 => by rw [roN, roN, roN, roN_or R a c n, swN_or]
theorem roN_cl {R : DR} {c : Nat} (h : CL R c) : ∀ n, roN R n c = c
  | 0 => rfl
  | n + 1 => by rw [roN, roN_cl h n, swN_cl h _ (Nat.le_refl _)]
theorem roN_sub {R : DR} {a t n : Nat} (h : (roN R n a).testBit t = true) : ∀ i, (roN R (n + i) a).testBit t = true
  | 0 => h
  | i + 1 => by rw [show n + (i + 1) = (n + i) + 1 by omega, roN]; exact swN_sub R _ t (roN_sub h i) _
theorem roN_stay {R : DR} {a n : Nat} (h : CL R (roN R n a)) : ∀ i, roN R (n + i) a = roN R n a
  | 0 => rfl
  | i + 1 => by rw [show n + (i + 1) = (n + i) + 1 by omega, roN, roN_stay h i, swN_cl h _ (Nat.le_refl _)]
/-- as many rounds as pockets, less one, come to an end -/
theorem roN_end {R : DR} (hD : Dat R) {k : Nat} (hk : k < R 0 0) : CL R (roN R (R 0 0 - 1) (2 ^ k)) := by
  have hlt : 2 ^ k < 2 ^ R 0 0 := Nat.pow_lt_pow_right (by decide) hk
  by_cases hex : ∃ i, i ≤ R 0 0 - 1 ∧ roN R (i + 1) (2 ^ k) = roN R i (2 ^ k)
  · obtain ⟨i, hi, he⟩ := hex
    have hc : CL R (roN R i (2 ^ k)) := cl_of (by rw [roN] at he; exact he)
    have hs := roN_stay hc (R 0 0 - 1 - i)
    rw [show i + (R 0 0 - 1 - i) = R 0 0 - 1 by omega] at hs
    rw [hs]
    exact hc
  · exfalso
    have hne : ∀ i, i ≤ R 0 0 - 1 → ∃ t, (roN R (i + 1) (2 ^ k)).testBit t = true ∧ (roN R i (2 ^ k)).testBit t = false := fun i hi => by
      refine Classical.byContradiction fun hno => hex ⟨i, hi, Nat.eq_of_testBit_eq fun t => ?_⟩
      cases h1 : (roN R i (2 ^ k)).testBit t
      · cases h2 : (roN R (i + 1) (2 ^ k)).testBit t
        · rfl
        · exact absurd ⟨t, h2, h1⟩ hno
      · exact roN_sub h1 1
    have hg : ∃ g : Nat → Nat, ∀ i, i ≤ R 0 0 → (roN R i (2 ^ k)).testBit (g i) = true ∧ ∀ q, q < i → (roN R q (2 ^ k)).testBit (g i) = false := by
      refine ⟨fun i => if h : 1 ≤ i ∧ i ≤ R 0 0 then Classical.choose (hne (i - 1) (by omega)) else k, fun i hi => ?_⟩
      by_cases h1 : 1 ≤ i ∧ i ≤ R 0 0
      · have hs := Classical.choose_spec (hne (i - 1) (by omega))
        simp only [dif_pos h1]
        generalize Classical.choose (hne (i - 1) (by omega)) = t at hs ⊢
        rw [show i - 1 + 1 = i by omega] at hs
        refine ⟨hs.1, fun q hq => ?_⟩
        cases h2 : (roN R q (2 ^ k)).testBit t
        · rfl
        · have := roN_sub h2 (i - 1 - q)
          rw [show q + (i - 1 - q) = i - 1 by omega, hs.2] at this
          cases this
      · simp only [dif_neg h1]
        have hi0 : i = 0 := by omega
        rw [hi0]
        exact ⟨Nat.testBit_two_pow_self, fun q hq => absurd hq (Nat.not_lt_zero _)⟩
    obtain ⟨g, hg⟩ := hg
    obtain ⟨i, j, h1, h2, h3⟩ := php (R 0 0) g (fun i hi => by
      refine Classical.byContradiction fun hno => ?_
      have h4 := (hg i hi).1
      rw [Nat.testBit_lt_two_pow (Nat.lt_of_lt_of_le (roN_lt hD hlt i) (Nat.pow_le_pow_right (by decide) (by omega)))] at h4
      cases h4)
    have h4 := (hg j h2).2 i h1
    rw [← h3, (hg i (by omega)).1] at h4
    cases h4
theorem roN_6 {R : DR} (hD : Dat R) {k : Nat} (hk : k < R 0 0) : roN R 6 (2 ^ k) = roN R (R 0 0 - 1) (2 ^ k) := by
  have h6 := hD.1
  have h := roN_stay (roN_end hD hk) (6 - (R 0 0 - 1))
  rw [show R 0 0 - 1 + (6 - (R 0 0 - 1)) = 6 by omega] at h
  exact h
theorem seN_cl {R : DR} (hD : Dat R) : ∀ k, k ≤ R 0 0 → CL R (seN R k).1 ∧ (seN R k).1 < 2 ^ R 0 0 ∧ (seN R k).2 ≤ k
  | 0, _ => ⟨fun j _ h => absurd (show Nat.testBit 0 j = true from h) (by rw [Nat.zero_testBit]; decide), Nat.pos_of_ne_zero (fun h => absurd h (by have := Nat.one_le_two_pow (n := R 0 0); omega)), Nat.le_refl _⟩
  | k + 1, hk => by
    obtain ⟨h1, h2, h3⟩ := seN_cl hD k (by omega)
    rw [seN]
    split
    · exact ⟨h1, h2, by omega⟩
    · exact ⟨h1.or (roN_end hD (by omega)), Nat.or_lt_two_pow h2 (roN_lt hD (Nat.pow_lt_pow_right (by decide) (by omega)) _), by show _ + 1 ≤ _; omega⟩
def nowS (R : DR) (w : Nat → Nat) (p : Int32) (d K : Nat) (x : Int32) : Int32 := pick [nI d, p, nI (outN R w (R 1 0)), nI (seN R (R 0 0)).2, nI K] x
section PARTS
variable {b s : Nat} {sc : pw_E} {mem : pw_M} {R : DR} {w : Nat → Nat} {p : Int32} {d : Nat} {e K : Nat}
set_option maxHeartbeats 4000000 in
theorem x_partOf (hS : St b s sc mem) (he : e = 49 ∨ e = 72) (hX : XD mem e R) (hD : Dat R) {k : Nat} (hk : k < R 0 0) : Rf 1 mX2_partOf [.ref e, .int (nI k)] mem (some (.int (nI (roN R (R 0 0 - 1) (2 ^ k))))) mem := by
  have h6 := hD.1
  have hp := pow6 h6
  have hlt : 2 ^ k < 2 ^ R 0 0 := Nat.pow_lt_pow_right (by decide) hk
  refine Ret.of (by decide) (Nat.le_of_ble_eq_true rfl) fun l G => ?_
  show PW _ _ _ _ [(0, _), (1, _)] _ _ _
  refine PW.iconst (v := nI 1) (by decide) dX2_partOf_0 ?_
  refine PW.iload_n rfl rfl dX2_partOf_1 ?_
  refine PW.ishl1 (by omega) dX2_partOf_2 ?_
  refine PW.istore_n rfl (by decide) dX2_partOf_3 (?_ : PW _ _ _ _ [(0, _), (1, _), (2, _)] _ _ _)
  refine PW.iconst (v := nI 1) (by decide) dX2_partOf_4 ?_
  refine PW.istore_n rfl (by decide) dX2_partOf_5 (?_ : PW _ _ _ _ [(0, _), (1, _), (2, _), (3, _)] _ _ _)
  skip
  refine PW.up (fun j => [(0, .ref e), (1, .int (nI k)), (2, .int (nI (roN R j (2 ^ k)))), (3, .int (nI (j + 1)))]) (fun _ => mem) (R 0 0 - 1) (fun i hi ih => ?_) ?_
  · have er : roN R (i + 1) (2 ^ k) = swN R (roN R i (2 ^ k)) (R 0 0) := rfl
    have hr := roN_lt hD hlt i
    rw [er] at ih
    generalize roN R i (2 ^ k) = a at hr ih
    refine PW.iload_n rfl rfl dX2_partOf_6 ?_
    refine PW.aload_n rfl rfl dX2_partOf_7 ?_
    refine PW.gI hS.1 (by have := he; omega) (skR0 he) (hX.1) fX2_62 dX2_partOf_8 ?_
    refine PW.icmp_geN 57 (by decide) (by first | omega | (split <;> omega)) (by first | omega | (split <;> omega)) dX2_partOf_11 (fun hc11 => by exfalso; omega) (fun hc11 => ?_)
    refine PW.iconst (v := nI 0) (by decide) dX2_partOf_14 ?_
    refine PW.istore (by decide) dX2_partOf_15 (?_ : PW _ _ _ _ [(0, _), (1, _), (2, _), (3, _), (4, _)] _ _ _)
    skip
    refine PW.up (fun j => [(0, .ref e), (1, .int (nI k)), (2, .int (nI (swN R a j))), (3, .int (nI (i + 1))), (4, .int (nI j))]) (fun _ => mem) (R 0 0) (fun j hj ih => ?_) ?_
    · have es : swN R a (j + 1) = if (swN R a j).testBit j then swN R a j ||| R 9 j else swN R a j := rfl
      have hs := swN_lt hD hr j (by omega)
      refine PW.iload rfl dX2_partOf_17 ?_
      refine PW.aload_n rfl rfl dX2_partOf_19 ?_
      refine PW.gI hS.1 (by have := he; omega) (skR0 he) (hX.1) fX2_62 dX2_partOf_20 ?_
      refine PW.icmp_geN 51 (by decide) (by first | omega | (split <;> omega)) (by first | omega | (split <;> omega)) dX2_partOf_23 (fun hc23 => by exfalso; omega) (fun hc23 => ?_)
      refine PW.iload_n rfl rfl dX2_partOf_26 ?_
      refine PW.iload rfl dX2_partOf_27 ?_
      refine PW.cSN _ kX2_107 (x_has (a := swN R a j) (k := j) (by omega) (by omega) mem) rfl rfl (Nat.le_of_ble_eq_true rfl) ⟨by decide, by decide⟩ ⟨Nat.zero_le _, Nat.zero_le _⟩ dX2_partOf_29 ?_
      refine PW.if_eqB 45 (by decide) dX2_partOf_32 (fun hc32 => ?_) (fun hc32 => ?_)
      · refine PW.iincN rfl (by decide) dX2_partOf_45 (?_ : PW _ _ _ _ [(0, _), (1, _), (2, _), (3, _), (4, _)] _ _ _)
        refine PW.goto 17 (by decide) dX2_partOf_48 ?_
        rw [es, hc32] at ih
        exact ih
      · refine PW.iload_n rfl rfl dX2_partOf_35 ?_
        refine PW.aload_n rfl rfl dX2_partOf_36 ?_
        refine PW.gR hS.1 (by have := he; omega) (skR9 he) fX2_30 dX2_partOf_37 ?_
        refine PW.iload rfl dX2_partOf_40 ?_
        refine PW.aI hS.1 (by have := he; omega) (akR7 he) (by exact rfl) ⟨by omega, by decide⟩ ((hX.2.2.2.2.1 j (by omega)).2.2.1) dX2_partOf_42 ?_
        refine PW.iorN dX2_partOf_43 ?_
        refine PW.istore_n rfl (by decide) dX2_partOf_44 (?_ : PW _ _ _ _ [(0, _), (1, _), (2, _), (3, _), (4, _)] _ _ _)
        refine PW.iincN rfl (by decide) dX2_partOf_45 (?_ : PW _ _ _ _ [(0, _), (1, _), (2, _), (3, _), (4, _)] _ _ _)
        refine PW.goto 17 (by decide) dX2_partOf_48 ?_
        rw [es, hc32] at ih
        exact ih
    · refine PW.iload rfl dX2_partOf_17 ?_
      refine PW.aload_n rfl rfl dX2_partOf_19 ?_
      refine PW.gI hS.1 (by have := he; omega) (skR0 he) (hX.1) fX2_62 dX2_partOf_20 ?_
      refine PW.icmp_geN 51 (by decide) (by first | omega | (split <;> omega)) (by first | omega | (split <;> omega)) dX2_partOf_23 (fun hc23 => ?_) (fun hc23 => by exfalso; omega)
      refine PW.iincN rfl (by decide) dX2_partOf_51 (?_ : PW _ _ _ _ [(0, _), (1, _), (2, _), (3, _), (4, _)] _ _ _)
      refine PW.goto 6 (by decide) dX2_partOf_54 ?_
      exact PW.drop _ (fun q h => List.mem_of_mem_take (i := 4) h) ih
  · refine PW.iload_n rfl rfl dX2_partOf_6 ?_
    refine PW.aload_n rfl rfl dX2_partOf_7 ?_
    refine PW.gI hS.1 (by have := he; omega) (skR0 he) (hX.1) fX2_62 dX2_partOf_8 ?_
    refine PW.icmp_geN 57 (by decide) (by first | omega | (split <;> omega)) (by first | omega | (split <;> omega)) dX2_partOf_11 (fun hc11 => ?_) (fun hc11 => by exfalso; omega)
    refine PW.iload_n rfl rfl dX2_partOf_57 ?_
    refine PW.iret rfl (Nat.le_refl _) (Nat.le_refl _) dX2_partOf_58 ?_
    exact ⟨rfl, rfl⟩
set_option maxHeartbeats 4000000 in
theorem x_parts (hS : St b s sc mem) (he : e = 49 ∨ e = 72) (hX : XD mem e R) (hD : Dat R) : Rf 2 mX2_parts [.ref e] mem (some (.int (nI (seN R (R 0 0)).2))) mem := by
  have h6 := hD.1
  have hp := pow6 h6
  refine Ret.of (by decide) (Nat.le_of_ble_eq_true rfl) fun l G => ?_
  show PW _ _ _ _ [(0, _)] _ _ _
  refine PW.iconst (v := nI 0) (by decide) dX2_parts_0 ?_
  refine PW.istore_n rfl (by decide) dX2_parts_1 (?_ : PW _ _ _ _ [(0, _), (1, _)] _ _ _)
  refine PW.iconst (v := nI 0) (by decide) dX2_parts_2 ?_
  refine PW.istore_n rfl (by decide) dX2_parts_3 (?_ : PW _ _ _ _ [(0, _), (1, _), (2, _)] _ _ _)
  refine PW.iconst (v := nI 0) (by decide) dX2_parts_4 ?_
  refine PW.istore_n rfl (by decide) dX2_parts_5 (?_ : PW _ _ _ _ [(0, _), (1, _), (2, _), (3, _)] _ _ _)
  skip
  refine PW.up (fun j => [(0, .ref e), (1, .int (nI (seN R j).1)), (2, .int (nI (seN R j).2)), (3, .int (nI j))]) (fun _ => mem) (R 0 0) (fun j hj ih => ?_) ?_
  · have es : seN R (j + 1) = if (seN R j).1.testBit j then seN R j else ((seN R j).1 ||| roN R (R 0 0 - 1) (2 ^ j), (seN R j).2 + 1) := rfl
    obtain ⟨-, hs, -⟩ := seN_cl hD j (by omega)
    refine PW.iload_n rfl rfl dX2_parts_6 ?_
    refine PW.aload_n rfl rfl dX2_parts_7 ?_
    refine PW.gI hS.1 (by have := he; omega) (skR0 he) (hX.1) fX2_62 dX2_parts_8 ?_
    refine PW.icmp_geN 39 (by decide) (by first | omega | (split <;> omega)) (by first | omega | (split <;> omega)) dX2_parts_11 (fun hc11 => by exfalso; omega) (fun hc11 => ?_)
    refine PW.iload_n rfl rfl dX2_parts_14 ?_
    refine PW.iload_n rfl rfl dX2_parts_15 ?_
    refine PW.cSN _ kX2_107 (x_has (a := (seN R j).1) (k := j) (by omega) (by omega) mem) rfl rfl (Nat.le_of_ble_eq_true rfl) ⟨by decide, by decide⟩ ⟨Nat.zero_le _, Nat.zero_le _⟩ dX2_parts_16 ?_
    refine PW.if_neB 33 (by decide) dX2_parts_19 (fun hc19 => ?_) (fun hc19 => ?_)
    · refine PW.iincN rfl (by decide) dX2_parts_33 (?_ : PW _ _ _ _ [(0, _), (1, _), (2, _), (3, _)] _ _ _)
      refine PW.goto 6 (by decide) dX2_parts_36 ?_
      rw [es, hc19] at ih
      exact ih
    · refine PW.iincN rfl (by decide) dX2_parts_22 (?_ : PW _ _ _ _ [(0, _), (1, _), (2, _), (3, _)] _ _ _)
      refine PW.iload_n rfl rfl dX2_parts_25 ?_
      refine PW.aload_n rfl rfl dX2_parts_26 ?_
      refine PW.iload_n rfl rfl dX2_parts_27 ?_
      refine PW.cV (ci := 2) (j := 0) _ hS.1 (by have := he; omega) (skR0 he) kX2_117 (x_partOf hS he hX hD hj) rfl rfl (Nat.le_of_ble_eq_true rfl) rfl ⟨by decide, by decide⟩ ⟨Nat.zero_le _, Nat.zero_le _⟩ dX2_parts_28 ?_
      refine PW.iorN dX2_parts_31 ?_
      refine PW.istore_n rfl (by decide) dX2_parts_32 (?_ : PW _ _ _ _ [(0, _), (1, _), (2, _), (3, _)] _ _ _)
      refine PW.iincN rfl (by decide) dX2_parts_33 (?_ : PW _ _ _ _ [(0, _), (1, _), (2, _), (3, _)] _ _ _)
      refine PW.goto 6 (by decide) dX2_parts_36 ?_
      rw [es, hc19] at ih
      exact ih
  · refine PW.iload_n rfl rfl dX2_parts_6 ?_
    refine PW.aload_n rfl rfl dX2_parts_7 ?_
    refine PW.gI hS.1 (by have := he; omega) (skR0 he) (hX.1) fX2_62 dX2_parts_8 ?_
    refine PW.icmp_geN 39 (by decide) (by first | omega | (split <;> omega)) (by first | omega | (split <;> omega)) dX2_parts_11 (fun hc11 => ?_) (fun hc11 => by exfalso; omega)
    refine PW.iload_n rfl rfl dX2_parts_39 ?_
    refine PW.iret rfl (Nat.le_refl _) (Nat.le_refl _) dX2_parts_40 ?_
    exact ⟨rfl, rfl⟩
set_option maxHeartbeats 4000000 in
theorem m_parts (hS : St b s sc mem) (hM : MD mem R) (hD : Dat R) : Rf 1 mX6_parts [.ref 95] mem (some (.int (nI (seN R (R 0 0)).2))) mem := by
  have h6 := hD.1
  have hp := pow6 h6
  refine Ret.of (by decide) (Nat.le_of_ble_eq_true rfl) fun l G => ?_
  show PW _ _ _ _ [(0, _)] _ _ _
  refine PW.iconst (v := nI 0) (by decide) dX6_parts_0 ?_
  refine PW.istore_n rfl (by decide) dX6_parts_1 (?_ : PW _ _ _ _ [(0, _), (1, _)] _ _ _)
  refine PW.iconst (v := nI 0) (by decide) dX6_parts_2 ?_
  refine PW.istore_n rfl (by decide) dX6_parts_3 (?_ : PW _ _ _ _ [(0, _), (1, _), (2, _)] _ _ _)
  refine PW.iconst (v := nI 0) (by decide) dX6_parts_4 ?_
  refine PW.istore_n rfl (by decide) dX6_parts_5 (?_ : PW _ _ _ _ [(0, _), (1, _), (2, _), (3, _)] _ _ _)
  skip
  refine PW.up (fun j => [(0, .ref 95), (1, .int (nI (seN R j).2)), (2, .int (nI (seN R j).1)), (3, .int (nI j))]) (fun _ => mem) (R 0 0) (fun k hk ih => ?_) ?_
  · have es : seN R (k + 1) = if (seN R k).1.testBit k then seN R k else ((seN R k).1 ||| roN R (R 0 0 - 1) (2 ^ k), (seN R k).2 + 1) := rfl
    obtain ⟨hcl, hs, hs2⟩ := seN_cl hD k (by omega)
    have hlt : 2 ^ k < 2 ^ R 0 0 := Nat.pow_lt_pow_right (by decide) hk
    have hro : (seN R k).1 ||| roN R (R 0 0 - 1) (2 ^ k) = roN R 6 ((seN R k).1 ||| 2 ^ k) := by rw [roN_or, roN_cl hcl, roN_6 hD hk]
    rw [hro] at es
    have hol : (seN R k).1 ||| 2 ^ k < 2 ^ R 0 0 := Nat.or_lt_two_pow hs hlt
    cases hbit : (seN R k).1.testBit k
    · rw [es, hbit] at ih
      have hhas := m_has (a := (seN R k).1) (k := k) (by omega) (by omega) mem
      rw [hbit] at hhas
      refine PW.iload_n rfl rfl dX6_parts_6 ?_
      refine PW.aload_n rfl rfl dX6_parts_7 ?_
      refine PW.gI hS.1 (by decide) rfl (hM.1) fX6_78 dX6_parts_8 ?_
      refine PW.icmp_geN 93 (by decide) (by first | omega | (split <;> omega)) (by first | omega | (split <;> omega)) dX6_parts_11 (fun hc11 => by (first | (exfalso; omega) | cases hc11)) (fun hc11 => ?_)
      refine PW.iload_n rfl rfl dX6_parts_14 ?_
      refine PW.iload_n rfl rfl dX6_parts_15 ?_
      refine PW.cS _ kX6_165 (hhas) rfl rfl (Nat.le_of_ble_eq_true rfl) ⟨by decide, by decide⟩ ⟨Nat.zero_le _, Nat.zero_le _⟩ dX6_parts_16 ?_
      refine PW.if_neB 87 (by decide) dX6_parts_19 (fun hc19 => by (first | (exfalso; omega) | cases hc19)) (fun hc19 => ?_)
      refine PW.iincN rfl (by decide) dX6_parts_22 (?_ : PW _ _ _ _ [(0, _), (1, _), (2, _), (3, _)] _ _ _)
      refine PW.iload_n rfl rfl dX6_parts_25 ?_
      refine PW.iconst (v := nI 1) (by decide) dX6_parts_26 ?_
      refine PW.iload_n rfl rfl dX6_parts_27 ?_
      refine PW.ishl1 (by omega) dX6_parts_28 ?_
      refine PW.iorN dX6_parts_29 ?_
      refine PW.istore_n rfl (by decide) dX6_parts_30 (?_ : PW _ _ _ _ [(0, _), (1, _), (2, _), (3, _)] _ _ _)
      refine PW.iconst (v := nI 0) (by decide) dX6_parts_31 ?_
      refine PW.istore (by decide) dX6_parts_32 (?_ : PW _ _ _ _ [(0, _), (1, _), (2, _), (3, _), (4, _)] _ _ _)
      skip
      generalize (seN R k).1 ||| 2 ^ k = a0 at hol ih
      generalize (seN R k).2 + 1 = fo at ih
      refine PW.up (fun j => [(0, .ref 95), (1, .int (nI fo)), (2, .int (nI (roN R j a0))), (3, .int (nI k)), (4, .int (nI j))]) (fun _ => mem) 6 (fun i hi ih => ?_) ?_
      · have er : roN R (i + 1) a0 = swN R (roN R i a0) (R 0 0) := rfl
        have hr := roN_lt hD hol i
        rw [er] at ih
        generalize roN R i a0 = a at hr ih
        refine PW.iload rfl dX6_parts_34 ?_
        refine PW.bipush (v := nI 6) (by decide) dX6_parts_36 ?_
        refine PW.icmp_geN 87 (by decide) (by first | omega | (split <;> omega)) (by first | omega | (split <;> omega)) dX6_parts_38 (fun hc38 => by (first | (exfalso; omega) | cases hc38)) (fun hc38 => ?_)
        refine PW.iconst (v := nI 0) (by decide) dX6_parts_41 ?_
        refine PW.istore (by decide) dX6_parts_42 (?_ : PW _ _ _ _ [(0, _), (1, _), (2, _), (3, _), (4, _), (5, _)] _ _ _)
        skip
        refine PW.up (fun j => [(0, .ref 95), (1, .int (nI fo)), (2, .int (nI (swN R a j))), (3, .int (nI k)), (4, .int (nI i)), (5, .int (nI j))]) (fun _ => mem) (R 0 0) (fun j hj ih => ?_) ?_
        · have es : swN R a (j + 1) = if (swN R a j).testBit j then swN R a j ||| R 9 j else swN R a j := rfl
          have hs := swN_lt hD hr j (by omega)
          refine PW.iload rfl dX6_parts_44 ?_
          refine PW.aload_n rfl rfl dX6_parts_46 ?_
          refine PW.gI hS.1 (by decide) rfl (hM.1) fX6_78 dX6_parts_47 ?_
          refine PW.icmp_geN 81 (by decide) (by first | omega | (split <;> omega)) (by first | omega | (split <;> omega)) dX6_parts_50 (fun hc50 => by (first | (exfalso; omega) | cases hc50)) (fun hc50 => ?_)
          refine PW.iload_n rfl rfl dX6_parts_53 ?_
          refine PW.iload_n rfl rfl dX6_parts_54 ?_
          refine PW.iload rfl dX6_parts_55 ?_
          refine PW.cS _ kX6_165 (m_has (a := swN R a j) (k := j) (by omega) (by omega) mem) rfl rfl (Nat.le_of_ble_eq_true rfl) ⟨by decide, by decide⟩ ⟨Nat.zero_le _, Nat.zero_le _⟩ dX6_parts_57 ?_
          refine PW.if_eqB 72 (by decide) dX6_parts_60 (fun hc60 => ?_) (fun hc60 => ?_)
          · refine PW.iconst (v := nI 0) (by decide) dX6_parts_72 ?_
            refine PW.iorZ dX6_parts_73 ?_
            refine PW.istore_n rfl (by decide) dX6_parts_74 (?_ : PW _ _ _ _ [(0, _), (1, _), (2, _), (3, _), (4, _), (5, _)] _ _ _)
            refine PW.iincN rfl (by decide) dX6_parts_75 (?_ : PW _ _ _ _ [(0, _), (1, _), (2, _), (3, _), (4, _), (5, _)] _ _ _)
            refine PW.goto 44 (by decide) dX6_parts_78 ?_
            rw [es, hc60] at ih
            exact ih
          · refine PW.aload_n rfl rfl dX6_parts_63 ?_
            refine PW.iload rfl dX6_parts_64 ?_
            refine PW.cV (ci := 6) (j := 0) _ hS.1 (by decide) rfl kX6_187 (m_seamsOf hS hM hD hj) rfl rfl (Nat.le_of_ble_eq_true rfl) rfl ⟨by decide, by decide⟩ ⟨Nat.zero_le _, Nat.zero_le _⟩ dX6_parts_66 ?_
            refine PW.goto 73 (by decide) dX6_parts_69 ?_
            refine PW.iorN dX6_parts_73 ?_
            refine PW.istore_n rfl (by decide) dX6_parts_74 (?_ : PW _ _ _ _ [(0, _), (1, _), (2, _), (3, _), (4, _), (5, _)] _ _ _)
            refine PW.iincN rfl (by decide) dX6_parts_75 (?_ : PW _ _ _ _ [(0, _), (1, _), (2, _), (3, _), (4, _), (5, _)] _ _ _)
            refine PW.goto 44 (by decide) dX6_parts_78 ?_
            rw [es, hc60] at ih
            exact ih
        · refine PW.iload rfl dX6_parts_44 ?_
          refine PW.aload_n rfl rfl dX6_parts_46 ?_
          refine PW.gI hS.1 (by decide) rfl (hM.1) fX6_78 dX6_parts_47 ?_
          refine PW.icmp_geN 81 (by decide) (by first | omega | (split <;> omega)) (by first | omega | (split <;> omega)) dX6_parts_50 (fun hc50 => ?_) (fun hc50 => by (first | (exfalso; omega) | cases hc50))
          refine PW.iincN rfl (by decide) dX6_parts_81 (?_ : PW _ _ _ _ [(0, _), (1, _), (2, _), (3, _), (4, _), (5, _)] _ _ _)
          refine PW.goto 34 (by decide) dX6_parts_84 ?_
          exact PW.drop _ (fun q h => List.mem_of_mem_take (i := 5) h) ih
      · refine PW.iload rfl dX6_parts_34 ?_
        refine PW.bipush (v := nI 6) (by decide) dX6_parts_36 ?_
        refine PW.icmp_geN 87 (by decide) (by first | omega | (split <;> omega)) (by first | omega | (split <;> omega)) dX6_parts_38 (fun hc38 => ?_) (fun hc38 => by (first | (exfalso; omega) | cases hc38))
        refine PW.iincN rfl (by decide) dX6_parts_87 (?_ : PW _ _ _ _ [(0, _), (1, _), (2, _), (3, _), (4, _)] _ _ _)
        refine PW.goto 6 (by decide) dX6_parts_90 ?_
        exact PW.drop _ (fun q h => List.mem_of_mem_take (i := 4) h) ih
    · rw [es, hbit] at ih
      have hhas := m_has (a := (seN R k).1) (k := k) (by omega) (by omega) mem
      rw [hbit] at hhas
      refine PW.iload_n rfl rfl dX6_parts_6 ?_
      refine PW.aload_n rfl rfl dX6_parts_7 ?_
      refine PW.gI hS.1 (by decide) rfl (hM.1) fX6_78 dX6_parts_8 ?_
      refine PW.icmp_geN 93 (by decide) (by first | omega | (split <;> omega)) (by first | omega | (split <;> omega)) dX6_parts_11 (fun hc11 => by (first | (exfalso; omega) | cases hc11)) (fun hc11 => ?_)
      refine PW.iload_n rfl rfl dX6_parts_14 ?_
      refine PW.iload_n rfl rfl dX6_parts_15 ?_
      refine PW.cS _ kX6_165 (hhas) rfl rfl (Nat.le_of_ble_eq_true rfl) ⟨by decide, by decide⟩ ⟨Nat.zero_le _, Nat.zero_le _⟩ dX6_parts_16 ?_
      refine PW.if_neB 87 (by decide) dX6_parts_19 (fun hc19 => ?_) (fun hc19 => by (first | (exfalso; omega) | cases hc19))
      refine PW.iincN rfl (by decide) dX6_parts_87 (?_ : PW _ _ _ _ [(0, _), (1, _), (2, _), (3, _)] _ _ _)
      refine PW.goto 6 (by decide) dX6_parts_90 ?_
      exact ih
  · refine PW.iload_n rfl rfl dX6_parts_6 ?_
    refine PW.aload_n rfl rfl dX6_parts_7 ?_
    refine PW.gI hS.1 (by decide) rfl (hM.1) fX6_78 dX6_parts_8 ?_
    refine PW.icmp_geN 93 (by decide) (by first | omega | (split <;> omega)) (by first | omega | (split <;> omega)) dX6_parts_11 (fun hc11 => ?_) (fun hc11 => by (first | (exfalso; omega) | cases hc11))
    refine PW.iload_n rfl rfl dX6_parts_93 ?_
    refine PW.iret rfl (Nat.le_refl _) (Nat.le_refl _) dX6_parts_94 ?_
    exact ⟨rfl, rfl⟩
set_option maxHeartbeats 4000000 in
theorem x_now (hS : St b s sc mem) (hX : XD mem b R) (hL : XL mem b R) (hD : Dat R) (hN : XN mem 13 (R 1 0) w p d) (hw : ∀ t, t < R 1 0 → w t < R 0 0) (hK : fi mem 15 1 = nI K) (x : Int32) : Rf 3 mX5_now [.ref 9, .int x] mem (some (.int (nowS R w p d K x))) mem := by
  unfold nowS
  by_cases hx : inR x 5 = true
  · obtain ⟨j, hj, rfl⟩ := inR_of hx
    rcases (show j = 0 ∨ j = 1 ∨ j = 2 ∨ j = 3 ∨ j = 4 by omega) with rfl | rfl | rfl | rfl | rfl
    · refine Ret.of (by decide) (Nat.le_of_ble_eq_true rfl) fun l G => ?_
      show PW _ _ _ _ [(0, _), (1, _)] _ _ _
      refine PW.iload_n rfl rfl dX5_now_0 ?_
      refine PW.tableIn (off := 35) 36 (by decide) (by decide) (by decide) (by decide) dX5_now_1 ?_
      refine PW.aload_n rfl rfl dX5_now_36 ?_
      refine PW.gR hS.1 (by decide) rfl fX5_19 dX5_now_37 ?_
      refine PW.gI hS.1 (by decide) rfl (by first | exact hN.2.1 | exact hN.2.2 | exact hK | exact rfl) fX5_150 dX5_now_40 ?_
      refine PW.iret rfl (Nat.le_refl _) (Nat.le_refl _) dX5_now_43 ?_
      exact ⟨rfl, rfl⟩
    · refine Ret.of (by decide) (Nat.le_of_ble_eq_true rfl) fun l G => ?_
      show PW _ _ _ _ [(0, _), (1, _)] _ _ _
      refine PW.iload_n rfl rfl dX5_now_0 ?_
      refine PW.tableIn (off := 43) 44 (by decide) (by decide) (by decide) (by decide) dX5_now_1 ?_
      refine PW.aload_n rfl rfl dX5_now_44 ?_
      refine PW.gR hS.1 (by decide) rfl fX5_19 dX5_now_45 ?_
      refine PW.gI hS.1 (by decide) rfl (by first | exact hN.2.1 | exact hN.2.2 | exact hK | exact rfl) fX5_153 dX5_now_48 ?_
      refine PW.iret rfl (Nat.le_refl _) (Nat.le_refl _) dX5_now_51 ?_
      exact ⟨rfl, rfl⟩
    · refine Ret.of (by decide) (Nat.le_of_ble_eq_true rfl) fun l G => ?_
      show PW _ _ _ _ [(0, _), (1, _)] _ _ _
      refine PW.iload_n rfl rfl dX5_now_0 ?_
      refine PW.tableIn (off := 51) 52 (by decide) (by decide) (by decide) (by decide) dX5_now_1 ?_
      refine PW.aload_n rfl rfl dX5_now_52 ?_
      refine PW.cV (ci := 5) (j := 0) _ hS.1 (by decide) rfl kX5_156 (x_outlawed hS hX hL hD hN hw) rfl rfl (Nat.le_of_ble_eq_true rfl) rfl ⟨by decide, by decide⟩ ⟨Nat.zero_le _, Nat.zero_le _⟩ dX5_now_53 ?_
      refine PW.iret rfl (Nat.le_refl _) (Nat.le_refl _) dX5_now_56 ?_
      exact ⟨rfl, rfl⟩
    · refine Ret.of (by decide) (Nat.le_of_ble_eq_true rfl) fun l G => ?_
      show PW _ _ _ _ [(0, _), (1, _)] _ _ _
      refine PW.iload_n rfl rfl dX5_now_0 ?_
      refine PW.tableIn (off := 56) 57 (by decide) (by decide) (by decide) (by decide) dX5_now_1 ?_
      refine PW.aload_n rfl rfl dX5_now_57 ?_
      refine PW.gV hS.1 (by decide) rfl hS.2.1 fX5_58 dX5_now_58 ?_
      refine PW.cV (ci := 2) (j := 0) _ hS.1 (by have := hS.b; omega) (skR0 hS.b) kX5_160 (x_parts hS hS.b hX hD) rfl rfl (Nat.le_of_ble_eq_true rfl) rfl ⟨by decide, by decide⟩ ⟨Nat.zero_le _, Nat.zero_le _⟩ dX5_now_61 ?_
      refine PW.iret rfl (Nat.le_refl _) (Nat.le_refl _) dX5_now_64 ?_
      exact ⟨rfl, rfl⟩
    · refine Ret.of (by decide) (Nat.le_of_ble_eq_true rfl) fun l G => ?_
      show PW _ _ _ _ [(0, _), (1, _)] _ _ _
      refine PW.iload_n rfl rfl dX5_now_0 ?_
      refine PW.tableIn (off := 64) 65 (by decide) (by decide) (by decide) (by decide) dX5_now_1 ?_
      refine PW.aload_n rfl rfl dX5_now_65 ?_
      refine PW.gR hS.1 (by decide) rfl fX5_26 dX5_now_66 ?_
      refine PW.gI hS.1 (by decide) rfl (by first | exact hN.2.1 | exact hN.2.2 | exact hK | exact rfl) fX5_90 dX5_now_69 ?_
      refine PW.iret rfl (Nat.le_refl _) (Nat.le_refl _) dX5_now_72 ?_
      exact ⟨rfl, rfl⟩
  · have hx' := Bool.eq_false_iff.mpr hx
    have hsw : x.toInt < 0 ∨ 4 < x.toInt := inR_out hx' rfl rfl
    refine Ret.of (by decide) (Nat.le_of_ble_eq_true rfl) fun l G => ?_
    show PW _ _ _ _ [(0, _), (1, _)] _ _ _
    refine PW.iload_n rfl rfl dX5_now_0 ?_
    refine PW.tableOut 73 hsw (by decide) dX5_now_1 ?_
    refine PW.iconst (v := -1) (by decide) dX5_now_73 ?_
    refine PW.iret rfl (Nat.le_refl _) (Nat.le_refl _) dX5_now_74 ?_
    exact ⟨by rw [pick_no hx'], rfl⟩
set_option maxHeartbeats 4000000 in
theorem m_now (hS : St b s sc mem) (hM : MD mem R) (hD : Dat R) (hN : MN mem (R 1 0) w p d) (hw : ∀ t, t < R 1 0 → w t < R 0 0) (hK : fi mem 95 13 = nI K) (x : Int32) : Rf 6 mX6_now [.ref 95, .int x] mem (some (.int (nowS R w p d K x))) mem := by
  have hT := hD.2.1
  unfold nowS
  refine Ret.of (by decide) (Nat.le_of_ble_eq_true rfl) fun l G => ?_
  show PW _ _ _ _ [(0, _), (1, _)] _ _ _
  refine PW.iconst (v := nI 0) (by decide) dX6_now_0 ?_
  refine PW.istore_n rfl (by decide) dX6_now_1 (?_ : PW _ _ _ _ [(0, _), (1, _), (2, _)] _ _ _)
  refine PW.iconst (v := nI 0) (by decide) dX6_now_2 ?_
  refine PW.istore_n rfl (by decide) dX6_now_3 (?_ : PW _ _ _ _ [(0, _), (1, _), (2, _), (3, _)] _ _ _)
  skip
  refine PW.up (fun j => [(0, .ref 95), (1, .int x), (2, .int (nI (outN R w j))), (3, .int (nI j))]) (fun _ => mem) (R 1 0) (fun j hj ih => ?_) ?_
  · have eo : outN R w (j + 1) = if letN R (w j) (R 13 j) then outN R w j else outN R w j ||| 2 ^ j := rfl
    refine PW.iload_n rfl rfl dX6_now_4 ?_
    refine PW.aload_n rfl rfl dX6_now_5 ?_
    refine PW.gI hS.1 (by decide) rfl (hM.2.1) fX6_86 dX6_now_6 ?_
    refine PW.icmp_geN 36 (by decide) (by first | omega | (split <;> omega)) (by first | omega | (split <;> omega)) dX6_now_9 (fun hc9 => by exfalso; omega) (fun hc9 => ?_)
    refine PW.iload_n rfl rfl dX6_now_12 ?_
    refine PW.aload_n rfl rfl dX6_now_13 ?_
    refine PW.iload_n rfl rfl dX6_now_14 ?_
    refine PW.cV (ci := 6) (j := 0) _ hS.1 (by decide) rfl kX6_196 (m_isOutlawed hS hM hD hN hw hj) rfl rfl (Nat.le_of_ble_eq_true rfl) rfl ⟨by decide, by decide⟩ ⟨Nat.zero_le _, Nat.zero_le _⟩ dX6_now_15 ?_
    refine PW.if_eqB 27 (by decide) dX6_now_18 (fun hc18 => ?_) (fun hc18 => ?_)
    · refine PW.iconst (v := nI 0) (by decide) dX6_now_27 ?_
      refine PW.iorZ dX6_now_28 ?_
      refine PW.istore_n rfl (by decide) dX6_now_29 (?_ : PW _ _ _ _ [(0, _), (1, _), (2, _), (3, _)] _ _ _)
      refine PW.iincN rfl (by decide) dX6_now_30 (?_ : PW _ _ _ _ [(0, _), (1, _), (2, _), (3, _)] _ _ _)
      refine PW.goto 4 (by decide) dX6_now_33 ?_
      first | (rw [eo, if_pos (by simpa using hc18)] at ih; exact ih) | (rw [eo, if_neg (by simpa using hc18)] at ih; exact ih)
    · refine PW.iconst (v := nI 1) (by decide) dX6_now_21 ?_
      refine PW.iload_n rfl rfl dX6_now_22 ?_
      refine PW.ishl1 (by omega) dX6_now_23 ?_
      refine PW.goto 28 (by decide) dX6_now_24 ?_
      refine PW.iorN dX6_now_28 ?_
      refine PW.istore_n rfl (by decide) dX6_now_29 (?_ : PW _ _ _ _ [(0, _), (1, _), (2, _), (3, _)] _ _ _)
      refine PW.iincN rfl (by decide) dX6_now_30 (?_ : PW _ _ _ _ [(0, _), (1, _), (2, _), (3, _)] _ _ _)
      refine PW.goto 4 (by decide) dX6_now_33 ?_
      first | (rw [eo, if_pos (by simpa using hc18)] at ih; exact ih) | (rw [eo, if_neg (by simpa using hc18)] at ih; exact ih)
  · by_cases hx : inR x 5 = true
    · obtain ⟨j, hj, rfl⟩ := inR_of hx
      rcases (show j = 0 ∨ j = 1 ∨ j = 2 ∨ j = 3 ∨ j = 4 by omega) with rfl | rfl | rfl | rfl | rfl
      · refine PW.iload_n rfl rfl dX6_now_4 ?_
        refine PW.aload_n rfl rfl dX6_now_5 ?_
        refine PW.gI hS.1 (by decide) rfl (hM.2.1) fX6_86 dX6_now_6 ?_
        refine PW.icmp_geN 36 (by decide) (by first | omega | (split <;> omega)) (by first | omega | (split <;> omega)) dX6_now_9 (fun hc9 => ?_) (fun hc9 => by exfalso; omega)
        refine PW.iload_n rfl rfl dX6_now_36 ?_
        refine PW.tableIn (off := 35) 72 (by decide) (by decide) (by decide) (by decide) dX6_now_37 ?_
        refine PW.aload_n rfl rfl dX6_now_72 ?_
        refine PW.gR hS.1 (by decide) rfl fX6_32 dX6_now_73 ?_
        refine PW.bipush (v := nI 7) (by decide) dX6_now_76 ?_
        refine PW.aI hS.1 (by decide) rfl (by exact rfl) ⟨by omega, by decide⟩ (by first | exact hN.2.1 | exact hN.2.2 | exact hK | exact rfl) dX6_now_78 ?_
        refine PW.iret rfl (Nat.le_refl _) (Nat.le_refl _) dX6_now_79 ?_
        exact ⟨rfl, rfl⟩
      · refine PW.iload_n rfl rfl dX6_now_4 ?_
        refine PW.aload_n rfl rfl dX6_now_5 ?_
        refine PW.gI hS.1 (by decide) rfl (hM.2.1) fX6_86 dX6_now_6 ?_
        refine PW.icmp_geN 36 (by decide) (by first | omega | (split <;> omega)) (by first | omega | (split <;> omega)) dX6_now_9 (fun hc9 => ?_) (fun hc9 => by exfalso; omega)
        refine PW.iload_n rfl rfl dX6_now_36 ?_
        refine PW.tableIn (off := 43) 80 (by decide) (by decide) (by decide) (by decide) dX6_now_37 ?_
        refine PW.aload_n rfl rfl dX6_now_80 ?_
        refine PW.gR hS.1 (by decide) rfl fX6_32 dX6_now_81 ?_
        refine PW.bipush (v := nI 6) (by decide) dX6_now_84 ?_
        refine PW.aI hS.1 (by decide) rfl (by exact rfl) ⟨by omega, by decide⟩ (by first | exact hN.2.1 | exact hN.2.2 | exact hK | exact rfl) dX6_now_86 ?_
        refine PW.iret rfl (Nat.le_refl _) (Nat.le_refl _) dX6_now_87 ?_
        exact ⟨rfl, rfl⟩
      · refine PW.iload_n rfl rfl dX6_now_4 ?_
        refine PW.aload_n rfl rfl dX6_now_5 ?_
        refine PW.gI hS.1 (by decide) rfl (hM.2.1) fX6_86 dX6_now_6 ?_
        refine PW.icmp_geN 36 (by decide) (by first | omega | (split <;> omega)) (by first | omega | (split <;> omega)) dX6_now_9 (fun hc9 => ?_) (fun hc9 => by exfalso; omega)
        refine PW.iload_n rfl rfl dX6_now_36 ?_
        refine PW.tableIn (off := 51) 88 (by decide) (by decide) (by decide) (by decide) dX6_now_37 ?_
        refine PW.iload_n rfl rfl dX6_now_88 ?_
        refine PW.iret rfl (Nat.le_refl _) (Nat.le_refl _) dX6_now_89 ?_
        exact ⟨rfl, rfl⟩
      · refine PW.iload_n rfl rfl dX6_now_4 ?_
        refine PW.aload_n rfl rfl dX6_now_5 ?_
        refine PW.gI hS.1 (by decide) rfl (hM.2.1) fX6_86 dX6_now_6 ?_
        refine PW.icmp_geN 36 (by decide) (by first | omega | (split <;> omega)) (by first | omega | (split <;> omega)) dX6_now_9 (fun hc9 => ?_) (fun hc9 => by exfalso; omega)
        refine PW.iload_n rfl rfl dX6_now_36 ?_
        refine PW.tableIn (off := 53) 90 (by decide) (by decide) (by decide) (by decide) dX6_now_37 ?_
        refine PW.aload_n rfl rfl dX6_now_90 ?_
        refine PW.cV (ci := 6) (j := 0) _ hS.1 (by decide) rfl kX6_204 (m_parts hS hM hD) rfl rfl (Nat.le_of_ble_eq_true rfl) rfl ⟨by decide, by decide⟩ ⟨Nat.zero_le _, Nat.zero_le _⟩ dX6_now_91 ?_
        refine PW.iret rfl (Nat.le_refl _) (Nat.le_refl _) dX6_now_94 ?_
        exact ⟨rfl, rfl⟩
      · refine PW.iload_n rfl rfl dX6_now_4 ?_
        refine PW.aload_n rfl rfl dX6_now_5 ?_
        refine PW.gI hS.1 (by decide) rfl (hM.2.1) fX6_86 dX6_now_6 ?_
        refine PW.icmp_geN 36 (by decide) (by first | omega | (split <;> omega)) (by first | omega | (split <;> omega)) dX6_now_9 (fun hc9 => ?_) (fun hc9 => by exfalso; omega)
        refine PW.iload_n rfl rfl dX6_now_36 ?_
        refine PW.tableIn (off := 58) 95 (by decide) (by decide) (by decide) (by decide) dX6_now_37 ?_
        refine PW.aload_n rfl rfl dX6_now_95 ?_
        refine PW.gI hS.1 (by decide) rfl (by first | exact hN.2.1 | exact hN.2.2 | exact hK | exact rfl) fX6_162 dX6_now_96 ?_
        refine PW.iret rfl (Nat.le_refl _) (Nat.le_refl _) dX6_now_99 ?_
        exact ⟨rfl, rfl⟩
    · have hx' := Bool.eq_false_iff.mpr hx
      have hsw : x.toInt < 0 ∨ 4 < x.toInt := inR_out hx' rfl rfl
      refine PW.iload_n rfl rfl dX6_now_4 ?_
      refine PW.aload_n rfl rfl dX6_now_5 ?_
      refine PW.gI hS.1 (by decide) rfl (hM.2.1) fX6_86 dX6_now_6 ?_
      refine PW.icmp_geN 36 (by decide) (by first | omega | (split <;> omega)) (by first | omega | (split <;> omega)) dX6_now_9 (fun hc9 => ?_) (fun hc9 => by exfalso; omega)
      refine PW.iload_n rfl rfl dX6_now_36 ?_
      refine PW.tableOut 100 hsw (by decide) dX6_now_37 ?_
      refine PW.iconst (v := -1) (by decide) dX6_now_100 ?_
      refine PW.iret rfl (Nat.le_refl _) (Nat.le_refl _) dX6_now_101 ?_
      exact ⟨by rw [pick_no hx'], rfl⟩
end PARTS
