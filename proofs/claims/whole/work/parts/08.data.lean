/-! ===== what a realm is: numbers by field and place, as the class and as the model hold them ===== -/
abbrev DR : Type := Nat → Nat → Nat
def hI (h : Nat) : Int32 := if h < 6 then nI h else -9
def Dat (R : DR) : Prop := R 0 0 ≤ 6 ∧ R 1 0 ≤ 6 ∧ R 2 0 ≤ 12 ∧
  (∀ k, k < R 0 0 → 1 ≤ R 3 k ∧ R 3 k ≤ 20 ∧ R 4 k < 64 ∧ R 5 k ≤ 9 ∧ (R 6 k < k ∨ R 6 k = 9)) ∧
  (∀ k, k < 6 → R 7 k ≤ 2 ∧ (R 7 k ≠ 0 → R 8 k < R 0 0) ∧ R 9 k < 2 ^ R 0 0 ∧ (R 10 k < R 0 0 ∨ R 10 k = 9) ∧ (R 10 k ≠ 9 → R 11 k ≤ 5) ∧ (R 0 0 ≤ k → R 9 k = 0) ∧ R 10 k ≠ k) ∧
  (∀ a c, a < 6 → c < 6 → R 12 (6 * a + c) < 64) ∧
  (∀ t, t < R 1 0 → R 13 t < 6 ∧ 1 ≤ R 14 t ∧ R 14 t ≤ 5 ∧ R 15 t ≤ 9 ∧ R 16 t < R 0 0)
/-- the class's realm b holds R -/
def XD (mem : pw_M) (b : Nat) (R : DR) : Prop :=
  fi mem b 0 = nI (R 0 0) ∧ fi mem b 1 = nI (R 1 0) ∧ fi mem b 2 = nI (R 2 0) ∧
  (∀ k, k < R 0 0 → iv mem (b + 1) k = nI (R 3 k) ∧ iv mem (b + 2) k = nI (R 4 k) ∧ iv mem (b + 3) k = nI (R 5 k) ∧ iv mem (b + 4) k = nI (R 6 k)) ∧
  (∀ k, k < 6 → iv mem (b + 5) k = nI (R 7 k) ∧ (R 7 k ≠ 0 → iv mem (b + 6) k = nI (R 8 k)) ∧ iv mem (b + 7) k = nI (R 9 k) ∧ iv mem (b + 8) k = hI (R 10 k) ∧ (R 10 k ≠ 9 → iv mem (b + 9) k = nI (R 11 k))) ∧
  (∀ a c, a < 6 → c < 6 → iv mem (b + 11 + a) c = nI (R 12 (6 * a + c))) ∧
  (∀ t, t < R 1 0 → iv mem (b + 17) t = nI (R 13 t) ∧ iv mem (b + 18) t = nI (R 14 t) ∧ iv mem (b + 19) t = nI (R 15 t) ∧ iv mem (b + 20) t = nI (R 16 t))
/-- which law holds by a row of yes and no -/
def lawN (R : DR) (k a s : Nat) : Bool := if R 7 k = 1 then a.testBit (R 8 k) else if R 7 k = 2 then !a.testBit (R 8 k) else !(R 4 k).testBit s
def holdN (R : DR) (a s : Nat) : Nat → Bool
  | 0 => true
  | k + 1 => holdN R a s k && (a.testBit k == lawN R k a s)
def fixN (R : DR) (s : Nat) : Nat → Nat
  | 0 => 0
  | a + 1 => fixN R s a + if holdN R a s (R 0 0) then 1 else 0
def allN (R : DR) (s : Nat) : Nat → Nat
  | 0 => 2 ^ R 0 0 - 1
  | a + 1 => if holdN R a s (R 0 0) then allN R s a &&& a else allN R s a
/-- pocket k lets sort s in; by the number of its outers -/
def letB (R : DR) (s : Nat) : Nat → Nat → Bool
  | 0, _ => false
  | f + 1, k => decide (0 < fixN R s (2 ^ R 0 0)) && (allN R s (2 ^ R 0 0)).testBit k && (decide (R 6 k = 9) || letB R s f (R 6 k))
def letN (R : DR) (k s : Nat) : Bool := letB R s 7 k
/-- the sorts that a pocket lets in, as bits -/
def letsN (R : DR) (k : Nat) : Nat → Nat
  | 0 => 0
  | s + 1 => if letN R k s then letsN R k s ||| 2 ^ s else letsN R k s
/-- the pockets that let a sort in, as bits -/
def pockN (R : DR) (s : Nat) : Nat → Nat
  | 0 => 0
  | k + 1 => if letN R k s then pockN R s k ||| 2 ^ k else pockN R s k
def XL (mem : pw_M) (b : Nat) (R : DR) : Prop := (∀ k, k < R 0 0 → iv mem (b + 21) k = nI (letsN R k 6)) ∧ ∀ s, s < 6 → iv mem (b + 22) s = nI (fixN R s (2 ^ R 0 0))
/-- where things are, what was paid, days, as an object of the class holds them -/
def XN (mem : pw_M) (r T : Nat) (w : Nat → Nat) (p : Int32) (d : Nat) : Prop := (∀ t, t < T → iv mem (r + 1) t = nI (w t)) ∧ fi mem r 1 = p ∧ fi mem r 2 = nI d
/-- the model holds R -/
def MD (mem : pw_M) (R : DR) : Prop :=
  fi mem 95 3 = nI (R 0 0) ∧ fi mem 95 10 = nI (R 1 0) ∧ fi mem 95 6 = nI (R 2 0) ∧
  (∀ k, k < R 0 0 → iv mem 97 (8 * k) = nI (R 3 k) ∧ iv mem 97 (8 * k + 1) = nI (R 4 k) ∧ iv mem 97 (8 * k + 2) = nI (R 5 k) ∧ iv mem 97 (8 * k + 3) = nI (R 6 k) ∧ iv mem 97 (8 * k + 4) = nI (R 7 k) ∧ (R 7 k ≠ 0 → iv mem 97 (8 * k + 5) = nI (R 8 k)) ∧ iv mem 97 (8 * k + 6) = hI (R 10 k) ∧ (R 10 k ≠ 9 → iv mem 97 (8 * k + 7) = nI (R 11 k))) ∧
  (∀ a c, a < 6 → c < 6 → iv mem 98 (6 * a + c) = bI ((R 9 a).testBit c) ∧ iv mem 99 (6 * a + c) = nI (R 12 (6 * a + c))) ∧
  (∀ t, t < R 1 0 → iv mem 100 t = nI (R 13 t) ∧ iv mem 101 t = nI (R 14 t) ∧ iv mem 102 t = nI (R 15 t))
/-- the model's state -/
def MN (mem : pw_M) (T : Nat) (w : Nat → Nat) (p : Int32) (d : Nat) : Prop := (∀ t, t < T → iv mem 103 t = nI (w t)) ∧ iv mem 103 6 = p ∧ iv mem 103 7 = nI d
/-- a number within 0 .. n - 1 -/
def inR (k : Int32) (n : Nat) : Bool := decide (0 ≤ k.toInt ∧ k.toInt < n)
theorem inR_of {k : Int32} {n : Nat} (h : inR k n = true) : ∃ j, j < n ∧ k = nI j := by
  have h1 := of_decide_eq_true h
  have h2 : ¬ k < 0 := fun q => by rw [Int32.lt_iff_toInt_lt, Int32.toInt_zero] at q; omega
  obtain ⟨j, hj, rfl⟩ := nI_of h2
  rw [nI_toInt hj] at h1
  exact ⟨j, by omega, rfl⟩
theorem inR_nI {j n : Nat} (hj : j < n) (hn : n < 2 ^ 31) : inR (nI j) n = true := by
  unfold inR
  rw [nI_toInt (by omega)]
  exact decide_eq_true ⟨by omega, by omega⟩
theorem sub1_toInt {n : Nat} (hn : n < 2 ^ 30) : (nI n - nI 1).toInt = (n : Int) - 1 := pk_sub_toInt hn (by decide)
theorem inR_x {k : Int32} {n : Nat} (hn : n < 2 ^ 30) : decide (nI 0 ≤ k ∧ k ≤ nI n - nI 1) = inR k n := by
  unfold inR
  congr 1
  rw [Int32.le_iff_toInt_le, Int32.le_iff_toInt_le, sub1_toInt hn, show (nI 0).toInt = 0 from rfl]
  apply propext
  constructor <;> (intro h; omega)
theorem inR_m {k : Int32} {n : Nat} (hn : n < 2 ^ 30) : decide ((0 : Int64) ≤ k.toInt64 ∧ k.toInt64 ≤ (nI n - nI 1).toInt64) = inR k n := by
  unfold inR
  congr 1
  rw [Int64.le_iff_toInt_le, Int64.le_iff_toInt_le, Int32.toInt_toInt64, Int32.toInt_toInt64, sub1_toInt hn, show (0 : Int64).toInt = 0 from rfl]
  apply propext
  constructor <;> (intro h; omega)
/-- a constant range, as the class and as the model test it -/
theorem rng_x {x lo hi : Int32} : decide (lo ≤ x ∧ x ≤ hi) = decide (lo.toInt ≤ x.toInt ∧ x.toInt ≤ hi.toInt) := by
  congr 1
  rw [Int32.le_iff_toInt_le, Int32.le_iff_toInt_le]
theorem rng_m {x : Int32} {lo hi : Int64} : decide (lo ≤ x.toInt64 ∧ x.toInt64 ≤ hi) = decide (lo.toInt ≤ x.toInt ∧ x.toInt ≤ hi.toInt) := by
  congr 1
  rw [Int64.le_iff_toInt_le, Int64.le_iff_toInt_le, Int32.toInt_toInt64]

theorem or2_lt {a n : Nat} (h : a < 2 ^ n) : a ||| 2 ^ n < 2 ^ (n + 1) := Nat.or_lt_two_pow (Nat.lt_of_lt_of_le h (Nat.pow_le_pow_right (by decide) (Nat.le_succ n))) (Nat.pow_lt_pow_right (by decide) (Nat.lt_succ_self n))
theorem letsN_lt (R : DR) (k : Nat) : ∀ n, letsN R k n < 2 ^ n
  | 0 => Nat.zero_lt_one
  | n + 1 => by
    have ih := letsN_lt R k n
    unfold letsN
    split
    · exact or2_lt ih
    · exact Nat.lt_of_lt_of_le ih (Nat.pow_le_pow_right (by decide) (Nat.le_succ n))
theorem letsN_bit (R : DR) (k : Nat) : ∀ n s, (letsN R k n).testBit s = (decide (s < n) && letN R k s)
  | 0, s => by simp [letsN]
  | n + 1, s => by
    have ih := letsN_bit R k n s
    unfold letsN
    by_cases hs : s = n
    · subst hs
      by_cases h : letN R k s = true
      · rw [if_pos h, Nat.testBit_or, Nat.testBit_two_pow_self]
        simp [h]
      · rw [if_neg h, ih]
        simp [h]
    · have hd : decide (s < n + 1) = decide (s < n) := by
        by_cases h : s < n
        · rw [decide_eq_true h, decide_eq_true (show s < n + 1 by omega)]
        · rw [decide_eq_false h, decide_eq_false (show ¬ s < n + 1 by omega)]
      rw [hd]
      by_cases h : letN R k n = true
      · rw [if_pos h, Nat.testBit_or, ih, Nat.testBit_two_pow_of_ne (fun e => hs e.symm)]
        simp
      · rw [if_neg h, ih]
theorem pockN_lt (R : DR) (s : Nat) : ∀ n, pockN R s n < 2 ^ n
  | 0 => Nat.zero_lt_one
  | n + 1 => by
    have ih := pockN_lt R s n
    unfold pockN
    split
    · exact or2_lt ih
    · exact Nat.lt_of_lt_of_le ih (Nat.pow_le_pow_right (by decide) (Nat.le_succ n))
theorem pockN_bit (R : DR) (s : Nat) : ∀ n k, (pockN R s n).testBit k = (decide (k < n) && letN R k s)
  | 0, k => by simp [pockN]
  | n + 1, k => by
    have ih := pockN_bit R s n k
    unfold pockN
    by_cases hs : k = n
    · subst hs
      by_cases h : letN R k s = true
      · rw [if_pos h, Nat.testBit_or, Nat.testBit_two_pow_self]
        simp [h]
      · rw [if_neg h, ih]
        simp [h]
    · have hd : decide (k < n + 1) = decide (k < n) := by
        by_cases h : k < n
        · rw [decide_eq_true h, decide_eq_true (show k < n + 1 by omega)]
        · rw [decide_eq_false h, decide_eq_false (show ¬ k < n + 1 by omega)]
      rw [hd]
      by_cases h : letN R n s = true
      · rw [if_pos h, Nat.testBit_or, ih, Nat.testBit_two_pow_of_ne (fun e => hs e.symm)]
        simp
      · rw [if_neg h, ih]
theorem letB_fuel {R : DR} (hD : Dat R) (s : Nat) : ∀ f k, k < f → k < R 0 0 → letB R s f k = letB R s (f + 1) k
  | 0, k, h, _ => absurd h (Nat.not_lt_zero _)
  | f + 1, k, h, hk => by
    rw [letB, letB]
    by_cases h9 : R 6 k = 9
    · simp [h9]
    · have ho := (hD.2.2.2.1 k hk).2.2.2.2.resolve_right h9
      rw [letB_fuel hD s f (R 6 k) (by omega) (by omega)]
theorem letN_eq {R : DR} (hD : Dat R) {k : Nat} (hk : k < R 0 0) (s : Nat) : letN R k s = (decide (0 < fixN R s (2 ^ R 0 0)) && (allN R s (2 ^ R 0 0)).testBit k && (decide (R 6 k = 9) || letN R (R 6 k) s)) := by
  have h6 := hD.1
  show letB R s 7 k = _
  rw [letB]
  by_cases h9 : R 6 k = 9
  · simp [h9]
  · have ho := (hD.2.2.2.1 k hk).2.2.2.2.resolve_right h9
    rw [letB_fuel hD s 6 (R 6 k) (by omega) (by omega)]
    rfl
theorem fixN_le (R : DR) (s : Nat) : ∀ n, fixN R s n ≤ n
  | 0 => Nat.le_refl _
  | n + 1 => by
    have ih := fixN_le R s n
    unfold fixN
    split <;> omega
theorem allN_le (R : DR) (s : Nat) : ∀ n, allN R s n ≤ 2 ^ R 0 0 - 1
  | 0 => Nat.le_refl _
  | n + 1 => by
    have ih := allN_le R s n
    unfold allN
    split
    · exact Nat.le_trans Nat.and_le_left ih
    · exact ih
theorem pow6 {n : Nat} (h : n ≤ 6) : 1 ≤ 2 ^ n ∧ 2 ^ n ≤ 64 := ⟨Nat.one_le_two_pow, Nat.le_trans (Nat.pow_le_pow_right (by decide) h) (by decide)⟩
theorem holdN_off {R : DR} {a s k : Nat} (h : holdN R a s k = false) : ∀ {n}, k ≤ n → holdN R a s n = false := by
  intro n hn
  induction n with
  | zero => rw [show k = 0 by omega] at h; exact h
  | succ n ih =>
    by_cases e : k = n + 1
    · rw [← e]; exact h
    · unfold holdN
      rw [ih (by omega)]
      rfl

theorem XD.ag {mem m : pw_M} {e : Nat} {R : DR} {A : Nat → Prop} (h : XD mem e R) (hA : Ag A mem m) (hq : ∀ q, e ≤ q → q ≤ e + 20 → A q) : XD m e R := by
  obtain ⟨h0, h1, h2, h3, h4, h5, h6⟩ := h
  refine ⟨by rw [hA.fi (hq e (by omega) (by omega))]; exact h0, by rw [hA.fi (hq e (by omega) (by omega))]; exact h1, by rw [hA.fi (hq e (by omega) (by omega))]; exact h2, fun k hk => ?_, fun k hk => ?_, fun a c ha hc => by rw [hA.iv (hq (e + 11 + a) (by omega) (by omega))]; exact h5 a c ha hc, fun t ht => ?_⟩
  · rw [hA.iv (hq (e + 1) (by omega) (by omega)), hA.iv (hq (e + 2) (by omega) (by omega)), hA.iv (hq (e + 3) (by omega) (by omega)), hA.iv (hq (e + 4) (by omega) (by omega))]
    exact h3 k hk
  · rw [hA.iv (hq (e + 5) (by omega) (by omega)), hA.iv (hq (e + 6) (by omega) (by omega)), hA.iv (hq (e + 7) (by omega) (by omega)), hA.iv (hq (e + 8) (by omega) (by omega)), hA.iv (hq (e + 9) (by omega) (by omega))]
    exact h4 k hk
  · rw [hA.iv (hq (e + 17) (by omega) (by omega)), hA.iv (hq (e + 18) (by omega) (by omega)), hA.iv (hq (e + 19) (by omega) (by omega)), hA.iv (hq (e + 20) (by omega) (by omega))]
    exact h6 t ht
theorem XL.ag {mem m : pw_M} {e : Nat} {R : DR} {A : Nat → Prop} (h : XL mem e R) (hA : Ag A mem m) (h21 : A (e + 21)) (h22 : A (e + 22)) : XL m e R :=
  ⟨fun k hk => by rw [hA.iv h21]; exact h.1 k hk, fun s hs => by rw [hA.iv h22]; exact h.2 s hs⟩
theorem XN.ag {mem m : pw_M} {r T : Nat} {w : Nat → Nat} {p : Int32} {d : Nat} {A : Nat → Prop} (h : XN mem r T w p d) (hA : Ag A mem m) (h0 : A r) (h1 : A (r + 1)) : XN m r T w p d :=
  ⟨fun t ht => by rw [hA.iv h1]; exact h.1 t ht, by rw [hA.fi h0]; exact h.2.1, by rw [hA.fi h0]; exact h.2.2⟩
theorem MD.ag {mem m : pw_M} {R : DR} {A : Nat → Prop} (h : MD mem R) (hA : Ag A mem m) (h95 : A 95) (hq : ∀ q, 97 ≤ q → q ≤ 102 → A q) : MD m R := by
  obtain ⟨h0, h1, h2, h3, h4, h5⟩ := h
  refine ⟨by rw [hA.fi h95]; exact h0, by rw [hA.fi h95]; exact h1, by rw [hA.fi h95]; exact h2, fun k hk => ?_, fun a c ha hc => ?_, fun t ht => ?_⟩
  · rw [hA.iv (hq 97 (by omega) (by omega)), hA.iv (hq 97 (by omega) (by omega)), hA.iv (hq 97 (by omega) (by omega)), hA.iv (hq 97 (by omega) (by omega)), hA.iv (hq 97 (by omega) (by omega)), hA.iv (hq 97 (by omega) (by omega)), hA.iv (hq 97 (by omega) (by omega)), hA.iv (hq 97 (by omega) (by omega))]
    exact h3 k hk
  · rw [hA.iv (hq 98 (by omega) (by omega)), hA.iv (hq 99 (by omega) (by omega))]
    exact h4 a c ha hc
  · rw [hA.iv (hq 100 (by omega) (by omega)), hA.iv (hq 101 (by omega) (by omega)), hA.iv (hq 102 (by omega) (by omega))]
    exact h5 t ht
theorem MN.ag {mem m : pw_M} {T : Nat} {w : Nat → Nat} {p : Int32} {d : Nat} {A : Nat → Prop} (h : MN mem T w p d) (hA : Ag A mem m) (h0 : A 103) : MN m T w p d :=
  ⟨fun t ht => by rw [hA.iv h0]; exact h.1 t ht, by rw [hA.iv h0]; exact h.2.1, by rw [hA.iv h0]; exact h.2.2⟩
theorem MD.ag2 {mem m : pw_M} {R : DR} {A : Nat → Prop} (h : MD mem R) (hA : Ag A mem m) (h3 : fi m 95 3 = fi mem 95 3) (h10 : fi m 95 10 = fi mem 95 10) (h6 : fi m 95 6 = fi mem 95 6) (hq : ∀ q, 97 ≤ q → q ≤ 102 → A q) : MD m R := by
  obtain ⟨q0, q1, q2, q3, q4, q5⟩ := h
  refine ⟨by rw [h3]; exact q0, by rw [h10]; exact q1, by rw [h6]; exact q2, fun k hk => ?_, fun a c ha hc => ?_, fun t ht => ?_⟩
  · rw [hA.iv (hq 97 (by omega) (by omega)), hA.iv (hq 97 (by omega) (by omega)), hA.iv (hq 97 (by omega) (by omega)), hA.iv (hq 97 (by omega) (by omega)), hA.iv (hq 97 (by omega) (by omega)), hA.iv (hq 97 (by omega) (by omega)), hA.iv (hq 97 (by omega) (by omega)), hA.iv (hq 97 (by omega) (by omega))]
    exact q3 k hk
  · rw [hA.iv (hq 98 (by omega) (by omega)), hA.iv (hq 99 (by omega) (by omega))]
    exact q4 a c ha hc
  · rw [hA.iv (hq 100 (by omega) (by omega)), hA.iv (hq 101 (by omega) (by omega)), hA.iv (hq 102 (by omega) (by omega))]
    exact q5 t ht
theorem fi_fv {mem m : pw_M} {r j : Nat} (h : fv m r j = fv mem r j) : fi m r j = fi mem r j := by simp only [fi, h]
theorem fl_fv {mem m : pw_M} {r j : Nat} (h : fv m r j = fv mem r j) : fl m r j = fl mem r j := by simp only [fl, h]
