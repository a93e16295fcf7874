/-! ===== what a realm is: numbers by field and place, as the class and as the model hold them ===== -/
abbrev DR : Type := Nat → Nat → Nat
def hI (h : Nat) : Int32 := if h < 6 then nI h else -9
def Dat (R : DR) : Prop := R 0 0 ≤ 6 ∧ R 1 0 ≤ 6 ∧ R 2 0 ≤ 12 ∧
  (∀ k, k < R 0 0 → 1 ≤ R 3 k ∧ R 3 k ≤ 20 ∧ R 4 k < 64 ∧ R 5 k ≤ 9 ∧ (R 6 k < k ∨ R 6 k = 9)) ∧
  (∀ k, k < 6 → R 7 k ≤ 2 ∧ (R 7 k ≠ 0 → R 8 k < R 0 0) ∧ R 9 k < 2 ^ R 0 0 ∧ (R 10 k < R 0 0 ∨ R 10 k = 9) ∧ (R 10 k ≠ 9 → R 11 k ≤ 5) ∧ (R 0 0 ≤ k → R 9 k = 0)) ∧
  (∀ a c, a < 6 → c < 6 → R 12 (6 * a + c) < 64) ∧
  (∀ t, t < R 1 0 → R 13 t < 6 ∧ 1 ≤ R 14 t ∧ R 14 t ≤ 5 ∧ R 15 t ≤ 9 ∧ R 16 t < R 0 0)
/-- the class's realm b holds R -/
def XD (mem : pw_M) (b : Nat) (R : DR) : Prop :=
  fi mem b 0 = nI (R 0 0) ∧ fi mem b 1 = nI (R 1 0) ∧ fi mem b 2 = nI (R 2 0) ∧
  (∀ k, k < R 0 0 → iv mem (b + 1) k = nI (R 3 k) ∧ iv mem (b + 2) k = nI (R 4 k) ∧ iv mem (b + 3) k = nI (R 5 k) ∧ iv mem (b + 4) k = nI (R 6 k)) ∧
  (∀ k, k < 6 → iv mem (b + 5) k = nI (R 7 k) ∧ (R 7 k ≠ 0 → iv mem (b + 6) k = nI (R 8 k)) ∧ iv mem (b + 7) k = nI (R 9 k) ∧ iv mem (b + 8) k = hI (R 10 k) ∧ (R 10 k ≠ 9 → iv mem (b + 9) k = nI (R 11 k))) ∧
  (∀ a c, a < 6 → c < 6 → iv mem (b + 11 + a) c = nI (R 12 (6 * a + c))) ∧
  (∀ t, t < R 1 0 → iv mem (b + 17) t = nI (R 13 t) ∧ iv mem (b + 18) t = nI (R 14 t) ∧ iv mem (b + 19) t = nI (R 15 t) ∧ iv mem (b + 20) t = nI (R 16 t))
/-- which law holds by a row of yes and no -/
def lawN (R : DR) (k a s : Nat) : Bool := if R 7 k = 1 then a.testBit (R 8 k) else if R 7 k = 2 then !a.testBit (R 8 k) else !(R 4 k).testBit s
def holdN (R : DR) (a s : Nat) : Nat → Bool
  | 0 => true
  | k + 1 => holdN R a s k && (a.testBit k == lawN R k a s)
def fixN (R : DR) (s : Nat) : Nat → Nat
  | 0 => 0
  | a + 1 => fixN R s a + if holdN R a s (R 0 0) then 1 else 0
def allN (R : DR) (s : Nat) : Nat → Nat
  | 0 => 2 ^ R 0 0 - 1
  | a + 1 => if holdN R a s (R 0 0) then allN R s a &&& a else allN R s a
/-- pocket k lets sort s in; by the number of its outers -/
def letB (R : DR) (s : Nat) : Nat → Nat → Bool
  | 0, _ => false
  | f + 1, k => decide (0 < fixN R s (2 ^ R 0 0)) && (allN R s (2 ^ R 0 0)).testBit k && (decide (R 6 k = 9) || letB R s f (R 6 k))
def letN (R : DR) (k s : Nat) : Bool := letB R s 7 k
/-- the sorts that a pocket lets in, as bits -/
def letsN (R : DR) (k : Nat) : Nat → Nat
  | 0 => 0
  | s + 1 => letsN R k s + if letN R k s then 2 ^ s else 0
def XL (mem : pw_M) (b : Nat) (R : DR) : Prop := (∀ k, k < R 0 0 → iv mem (b + 21) k = nI (letsN R k 6)) ∧ ∀ s, s < 6 → iv mem (b + 22) s = nI (fixN R s (2 ^ R 0 0))
/-- where things are, what was paid, days, as an object of the class holds them -/
def XN (mem : pw_M) (r T : Nat) (w : Nat → Nat) (p : Int32) (d : Nat) : Prop := (∀ t, t < T → iv mem (r + 1) t = nI (w t)) ∧ fi mem r 1 = p ∧ fi mem r 2 = nI d
/-- the model holds R -/
def MD (mem : pw_M) (R : DR) : Prop :=
  fi mem 95 3 = nI (R 0 0) ∧ fi mem 95 10 = nI (R 1 0) ∧ fi mem 95 6 = nI (R 2 0) ∧
  (∀ k, k < R 0 0 → iv mem 97 (8 * k) = nI (R 3 k) ∧ iv mem 97 (8 * k + 1) = nI (R 4 k) ∧ iv mem 97 (8 * k + 2) = nI (R 5 k) ∧ iv mem 97 (8 * k + 3) = nI (R 6 k) ∧ iv mem 97 (8 * k + 4) = nI (R 7 k) ∧ (R 7 k ≠ 0 → iv mem 97 (8 * k + 5) = nI (R 8 k)) ∧ iv mem 97 (8 * k + 6) = hI (R 10 k) ∧ (R 10 k ≠ 9 → iv mem 97 (8 * k + 7) = nI (R 11 k))) ∧
  (∀ a c, a < 6 → c < 6 → iv mem 98 (6 * a + c) = bI ((R 9 a).testBit c) ∧ iv mem 99 (6 * a + c) = nI (R 12 (6 * a + c))) ∧
  (∀ t, t < R 1 0 → iv mem 100 t = nI (R 13 t) ∧ iv mem 101 t = nI (R 14 t) ∧ iv mem 102 t = nI (R 15 t))
/-- the model's state -/
def MN (mem : pw_M) (T : Nat) (w : Nat → Nat) (p : Int32) (d : Nat) : Prop := (∀ t, t < T → iv mem 103 t = nI (w t)) ∧ iv mem 103 6 = p ∧ iv mem 103 7 = nI d
/-- a number within 0 .. n - 1 -/
def inR (k : Int32) (n : Nat) : Bool := decide (0 ≤ k.toInt ∧ k.toInt < n)
theorem inR_of {k : Int32} {n : Nat} (h : inR k n = true) : ∃ j, j < n ∧ k = nI j := by
  have h1 := of_decide_eq_true h
  have h2 : ¬ k < 0 := fun q => by rw [Int32.lt_iff_toInt_lt, Int32.toInt_zero] at q; omega
  obtain ⟨j, hj, rfl⟩ := nI_of h2
  rw [nI_toInt hj] at h1
  exact ⟨j, by omega, rfl⟩
theorem inR_nI {j n : Nat} (hj : j < n) (hn : n < 2 ^ 31) : inR (nI j) n = true := by
  unfold inR
  rw [nI_toInt (by omega)]
  exact decide_eq_true ⟨by omega, by omega⟩
theorem sub1_toInt {n : Nat} (hn : n < 2 ^ 30) : (nI n - nI 1).toInt = (n : Int) - 1 := pk_sub_toInt hn (by decide)
theorem inR_x {k : Int32} {n : Nat} (hn : n < 2 ^ 30) : decide (nI 0 ≤ k ∧ k ≤ nI n - nI 1) = inR k n := by
  unfold inR
  congr 1
  rw [Int32.le_iff_toInt_le, Int32.le_iff_toInt_le, sub1_toInt hn, show (nI 0).toInt = 0 from rfl]
  apply propext
  constructor <;> (intro h; omega)
theorem inR_m {k : Int32} {n : Nat} (hn : n < 2 ^ 30) : decide ((0 : Int64) ≤ k.toInt64 ∧ k.toInt64 ≤ (nI n - nI 1).toInt64) = inR k n := by
  unfold inR
  congr 1
  rw [Int64.le_iff_toInt_le, Int64.le_iff_toInt_le, Int32.toInt_toInt64, Int32.toInt_toInt64, sub1_toInt hn, show (0 : Int64).toInt = 0 from rfl]
  apply propext
  constructor <;> (intro h; omega)
/-- a constant range, as the class and as the model test it -/
theorem rng_x {x lo hi : Int32} : decide (lo ≤ x ∧ x ≤ hi) = decide (lo.toInt ≤ x.toInt ∧ x.toInt ≤ hi.toInt) := by
  congr 1
  rw [Int32.le_iff_toInt_le, Int32.le_iff_toInt_le]
theorem rng_m {x : Int32} {lo hi : Int64} : decide (lo ≤ x.toInt64 ∧ x.toInt64 ≤ hi) = decide (lo.toInt ≤ x.toInt ∧ x.toInt ≤ hi.toInt) := by
  congr 1
  rw [Int64.le_iff_toInt_le, Int64.le_iff_toInt_le, Int32.toInt_toInt64]
