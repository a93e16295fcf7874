/-! ===== stow: rows of pockets by number ===== -/
def pD (P t a j : Nat) : Nat := a / P ^ (t - 1 - j) % P
def okL (R : DR) (ρ : Nat → Nat) : Nat → Bool
  | 0 => true
  | n + 1 => okL R ρ n && letN R (ρ n) (R 13 n)
def cntN (w ρ : Nat → Nat) : Nat → Nat
  | 0 => 0
  | n + 1 => cntN w ρ n + if ρ n = w n then 0 else 1
def okS (R : DR) (ρ : Nat → Nat) : Nat → Bool
  | 0 => true
  | k + 1 => okS R ρ k && decide (fillN R ρ k (R 1 0) ≤ R 3 k)
def okR (R : DR) (ρ : Nat → Nat) : Bool := okL R ρ (R 1 0) && okS R ρ (R 0 0)
/-- row r stows all, with at most M elsewhere -/
def GD (R : DR) (w : Nat → Nat) (M r : Nat) : Prop := okR R (pD (R 0 0) (R 1 0) r) = true ∧ cntN w (pD (R 0 0) (R 1 0) r) (R 1 0) ≤ M
def stB (R : DR) (w : Nat → Nat) : Nat → Nat × Nat
  | 0 => (100000, 0)
  | r + 1 => if okR R (pD (R 0 0) (R 1 0) r) = true ∧ cntN w (pD (R 0 0) (R 1 0) r) (R 1 0) < (stB R w r).1 then (cntN w (pD (R 0 0) (R 1 0) r) (R 1 0), r) else stB R w r
theorem pD_pre {P t n r j : Nat} (hj : j < t) : pD P (t + n) r j = pD P t (r / P ^ n) j := by
  unfold pD
  rw [Nat.div_div_eq_div_mul, ← Nat.pow_add, show t + n - 1 - j = n + (t - 1 - j) by omega]
theorem pD_last {P t a k : Nat} (hk : k < P) : pD P (t + 1) (a * P + k) t = k := by
  unfold pD
  rw [show t + 1 - 1 - t = 0 by omega, Nat.pow_zero, Nat.div_one, Nat.mul_comm, Nat.mul_add_mod, Nat.mod_eq_of_lt hk]
theorem dv_q {P a k : Nat} (hk : k < P) : (a * P + k) / P = a := by
  rw [Nat.mul_comm, Nat.mul_add_div (by omega), Nat.div_eq_of_lt hk, Nat.add_zero]
theorem pD_pre1 {P t a k j : Nat} (hk : k < P) (hj : j < t) : pD P (t + 1) (a * P + k) j = pD P t a j := by
  rw [pD_pre hj, Nat.pow_one, dv_q hk]
theorem okL_c {R : DR} {ρ σ : Nat → Nat} : ∀ n, (∀ j, j < n → ρ j = σ j) → okL R ρ n = okL R σ n
  | 0, _ => rfl
  | n + 1, h => by rw [okL, okL, okL_c n (fun j hj => h j (by omega)), h n (by omega)]
theorem cntN_c {w ρ σ : Nat → Nat} : ∀ n, (∀ j, j < n → ρ j = σ j) → cntN w ρ n = cntN w σ n
  | 0, _ => rfl
  | n + 1, h => by rw [cntN, cntN, cntN_c n (fun j hj => h j (by omega)), h n (by omega)]
theorem fillN_c {R : DR} {ρ σ : Nat → Nat} {k : Nat} : ∀ n, (∀ j, j < n → ρ j = σ j) → fillN R ρ k n = fillN R σ k n
  | 0, _ => rfl
  | n + 1, h => by rw [fillN, fillN, fillN_c n (fun j hj => h j (by omega)), h n (by omega)]
theorem okL_le {R : DR} {ρ : Nat → Nat} {n : Nat} : ∀ m, okL R ρ (n + m) = true → okL R ρ n = true
  | 0, h => h
  | m + 1, h => by
    have h1 : (okL R ρ (n + m) && letN R (ρ (n + m)) (R 13 (n + m))) = true := h
    exact okL_le m (Bool.and_eq_true_iff.mp h1).1
theorem cntN_le {w ρ : Nat → Nat} {n : Nat} : ∀ m, cntN w ρ n ≤ cntN w ρ (n + m)
  | 0 => Nat.le_refl _
  | m + 1 => Nat.le_trans (cntN_le m) (Nat.le_add_right _ _)
theorem fillN_mo {R : DR} {ρ : Nat → Nat} {k n : Nat} : ∀ m, fillN R ρ k n ≤ fillN R ρ k (n + m)
  | 0 => Nat.le_refl _
  | m + 1 => Nat.le_trans (fillN_mo m) (Nat.le_add_right _ _)
theorem cntN_n {w ρ : Nat → Nat} : ∀ n, cntN w ρ n ≤ n
  | 0 => Nat.le_refl _
  | n + 1 => by
    have ih := cntN_n (w := w) (ρ := ρ) n
    rw [cntN]
    split <;> omega
theorem okS_iff {R : DR} {ρ : Nat → Nat} : ∀ n, okS R ρ n = true ↔ ∀ k, k < n → fillN R ρ k (R 1 0) ≤ R 3 k
  | 0 => ⟨fun _ k hk => absurd hk (Nat.not_lt_zero _), fun _ => rfl⟩
  | n + 1 => by
    rw [okS, Bool.and_eq_true_iff, okS_iff n, decide_eq_true_iff]
    constructor
    · intro h k hk
      by_cases e : k = n
      · rw [e]; exact h.2
      · exact h.1 k (by omega)
    · intro h
      exact ⟨fun k hk => h k (by omega), h n (by omega)⟩
theorem okR_iff {R : DR} {ρ : Nat → Nat} : okR R ρ = true ↔ okL R ρ (R 1 0) = true ∧ ∀ k, k < R 0 0 → fillN R ρ k (R 1 0) ≤ R 3 k := by
  rw [okR, Bool.and_eq_true_iff, okS_iff]
theorem GD.pre {R : DR} {w : Nat → Nat} {M r n t a : Nat} (h : GD R w M r) (hT : t + n = R 1 0) (hr : r / R 0 0 ^ n = a) : okL R (pD (R 0 0) t a) t = true ∧ cntN w (pD (R 0 0) t a) t ≤ M ∧ ∀ k, k < R 0 0 → fillN R (pD (R 0 0) t a) k t ≤ R 3 k := by
  obtain ⟨h1, h2⟩ := h
  obtain ⟨h3, h4⟩ := okR_iff.mp h1
  rw [← hT] at h2 h3 h4
  have e : ∀ j, j < t → pD (R 0 0) (t + n) r j = pD (R 0 0) t a j := fun j hj => by rw [pD_pre hj, hr]
  refine ⟨(okL_c t e).symm.trans (okL_le n h3), ?_, fun k hk => ?_⟩
  · rw [← cntN_c t e]
    exact Nat.le_trans (cntN_le n) h2
  · rw [← fillN_c t e]
    exact Nat.le_trans (fillN_mo n) (h4 k hk)
theorem stB_spec {R : DR} {w : Nat → Nat} (hT : R 1 0 ≤ 6) : ∀ N, ((stB R w N).1 = 100000 ∧ ∀ M r, r < N → ¬ GD R w M r) ∨ ((stB R w N).1 < 100000 ∧ (stB R w N).2 < N ∧ GD R w (stB R w N).1 (stB R w N).2 ∧ (∀ r, r < (stB R w N).2 → ¬ GD R w (stB R w N).1 r) ∧ ∀ M r, M < (stB R w N).1 → r < N → ¬ GD R w M r)
  | 0 => Or.inl ⟨rfl, fun M r hr => absurd hr (Nat.not_lt_zero _)⟩
  | N + 1 => by
    have hc := cntN_n (w := w) (ρ := pD (R 0 0) (R 1 0) N) (R 1 0)
    rw [stB]
    by_cases h : okR R (pD (R 0 0) (R 1 0) N) = true ∧ cntN w (pD (R 0 0) (R 1 0) N) (R 1 0) < (stB R w N).1
    · rw [if_pos h]
      refine Or.inr ⟨by show cntN _ _ _ < _; omega, Nat.lt_succ_self _, ⟨h.1, Nat.le_refl _⟩, ?_, ?_⟩
      · intro r hr
        rcases stB_spec hT N with q | q
        · exact q.2 _ r hr
        · exact q.2.2.2.2 _ r h.2 hr
      · intro M r hM hr g
        by_cases e : r = N
        · subst e
          exact absurd g.2 (Nat.not_le.mpr hM)
        · rcases stB_spec hT N with q | q
          · exact q.2 _ r (by omega) g
          · exact q.2.2.2.2 _ r (Nat.lt_trans hM h.2) (by omega) g
    · rw [if_neg h]
      rcases stB_spec hT N with q | q
      · refine Or.inl ⟨q.1, fun M r hr g => ?_⟩
        by_cases e : r = N
        · subst e
          exact h ⟨g.1, by rw [q.1]; omega⟩
        · exact q.2 M r (by omega) g
      · refine Or.inr ⟨q.1, Nat.lt_succ_of_lt q.2.1, q.2.2.1, q.2.2.2.1, fun M r hM hr g => ?_⟩
        by_cases e : r = N
        · subst e
          exact h ⟨g.1, Nat.lt_of_le_of_lt g.2 hM⟩
        · exact q.2.2.2.2 M r hM (by omega) g
/-- what a search by so many, from none on, comes to -/
theorem stB_uni {R : DR} {w : Nat → Nat} (hT : R 1 0 ≤ 6) {N M r : Nat} (hr : r < N) (hg : GD R w M r) (hf : ∀ r', r' < r → ¬ GD R w M r') (hm : ∀ M', M' < M → ∀ r', r' < N → ¬ GD R w M' r') : stB R w N = (M, r) ∧ (stB R w N).1 ≠ 100000 := by
  rcases stB_spec (R := R) (w := w) hT N with q | q
  · exact absurd hg (q.2 M r hr)
  · obtain ⟨q1, q2, q3, q4, q5⟩ := q
    have e1 : (stB R w N).1 = M := by
      rcases Nat.lt_trichotomy (stB R w N).1 M with h | h | h
      · exact absurd q3 (hm _ h _ q2)
      · exact h
      · exact absurd hg (q5 M r h hr)
    have e2 : (stB R w N).2 = r := by
      rw [e1] at q3 q4
      rcases Nat.lt_trichotomy (stB R w N).2 r with h | h | h
      · exact absurd q3 (hf _ h)
      · exact h
      · exact absurd hg (q4 r h)
    exact ⟨Prod.ext e1 e2, Nat.ne_of_lt q1⟩
def stwS (R : DR) (w : Nat → Nat) (t : Int32) : Int32 := if t = -1 ∨ inR t (R 1 0) = true then (if (stB R w (R 0 0 ^ R 1 0)).1 = 100000 then -9 else if t = -1 then nI (stB R w (R 0 0 ^ R 1 0)).1 else nI (pD (R 0 0) (R 1 0) (stB R w (R 0 0 ^ R 1 0)).2 (cl t))) else -1
