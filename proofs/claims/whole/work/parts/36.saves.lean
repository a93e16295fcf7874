/-! ===== saves: class ===== -/
def svT (R : DR) (t a k e : Nat) : Nat := lstM (trR R t (e / 6) (e % 6)) t true a k
def svC (R : DR) (t : Nat) (e : Nat) : Bool := decide (e / 6 < e % 6) && ((R 9 (e / 6)).testBit (e % 6) && !(R 12 e).testBit t)
def svN (R : DR) (t a k : Nat) : Nat → Nat × Int32
  | 0 => (lstM R t true a k, -9)
  | e + 1 => if svC R t e = true ∧ svT R t a k e < (svN R t a k e).1 then (svT R t a k e, nI (100 * (e / 6) + 10 * (e % 6) + t)) else svN R t a k e
def savS (R : DR) (w : Nat → Nat) (t k : Int32) : Int32 := if inR t (R 1 0) = true ∧ inR k (R 0 0) = true then (svN R (R 13 (cl t)) (w (cl t)) (cl k) 36).2 else -1
theorem svN_skip {R : DR} {t a k e : Nat} (h : svC R t e = false) : svN R t a k (e + 1) = svN R t a k e := by
  rw [svN, if_neg (fun q => by rw [h] at q; exact absurd q.1 (by decide))]
theorem svN_skips {R : DR} {t a k e : Nat} : ∀ n, (∀ i, i < n → svC R t (e + i) = false) → svN R t a k (e + n) = svN R t a k e
  | 0, _ => rfl
  | n + 1, h => by
    show svN R t a k (e + n + 1) = _
    rw [svN_skip (h n (by omega)), svN_skips n (fun i hi => h i (by omega))]
theorem svC_row {R : DR} {t u v : Nat} (hv : v < 6) (h : v ≤ u) : svC R t (6 * u + v) = false := by
  unfold svC
  rw [decide_eq_false (by omega), Bool.false_and]
theorem svC_in {R : DR} {t u v : Nat} (hv : v < 6) (h : u < v) : svC R t (6 * u + v) = ((R 9 u).testBit v && !(R 12 (6 * u + v)).testBit t) := by
  unfold svC
  rw [show (6 * u + v) / 6 = u by omega, show (6 * u + v) % 6 = v by omega, decide_eq_true h, Bool.true_and]
theorem svC_off {R : DR} (hD : Dat R) {t u v : Nat} (hu : u < 6) (hv : v < 6) (h : R 0 0 ≤ u ∨ R 0 0 ≤ v) : svC R t (6 * u + v) = false := by
  unfold svC
  rw [show (6 * u + v) / 6 = u by omega, show (6 * u + v) % 6 = v by omega]
  have : (R 9 u).testBit v = false := by
    cases hb : (R 9 u).testBit v
    · rfl
    · have := seam_in hD hu hb
      omega
  rw [this, Bool.false_and, Bool.and_false]
theorem svN_le {R : DR} {t a k : Nat} : ∀ e, (svN R t a k e).1 ≤ lstM R t true a k
  | 0 => Nat.le_refl _
  | e + 1 => by
    have ih := svN_le (R := R) (t := t) (a := a) (k := k) e
    rw [svN]
    split
    · next h => exact Nat.le_trans (Nat.le_of_lt h.2) ih
    · exact ih
/-- a row's end, and the next row's first pair -/
theorem svN_row {R : DR} (hD : Dat R) {t a k u : Nat} (hu : u < R 0 0) : svN R t a k (6 * u + (u + 1)) = svN R t a k (6 * u) ∧ svN R t a k (6 * u + R 0 0) = svN R t a k (6 * (u + 1)) := by
  have h6 := hD.1
  constructor
  · exact svN_skips (u + 1) (fun i hi => svC_row (by omega) (by omega))
  · have := svN_skips (R := R) (t := t) (a := a) (k := k) (e := 6 * u + R 0 0) (6 - R 0 0) (fun i hi => by
      rw [show 6 * u + R 0 0 + i = 6 * u + (R 0 0 + i) by omega]
      exact svC_off hD (by omega) (by omega) (Or.inr (by omega)))
    rw [show 6 * u + R 0 0 + (6 - R 0 0) = 6 * (u + 1) by omega] at this
    exact this.symm
theorem svN_end {R : DR} (hD : Dat R) {t a k : Nat} : svN R t a k 36 = svN R t a k (6 * R 0 0) := by
  have h6 := hD.1
  have := svN_skips (R := R) (t := t) (a := a) (k := k) (e := 6 * R 0 0) (36 - 6 * R 0 0) (fun i hi => by
    rw [show 6 * R 0 0 + i = 6 * (R 0 0 + i / 6) + i % 6 by omega]
    exact svC_off hD (by omega) (by omega) (Or.inl (by omega)))
  rw [show 6 * R 0 0 + (36 - 6 * R 0 0) = 36 by omega] at this
  exact this
