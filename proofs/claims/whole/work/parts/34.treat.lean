/-! ===== a realm with one more treaty ===== -/
def trR (R : DR) (t A B : Nat) : DR := fun i j => if i = 12 then (if j = 6 * A + B ∨ j = 6 * B + A then R 12 j ||| 2 ^ t else R 12 j) else R i j
/-- treaties are told for both sides -/
def Sym (R : DR) : Prop := ∀ a c, a < 6 → c < 6 → R 12 (6 * a + c) = R 12 (6 * c + a)
section TRE
variable {R S : DR}
theorem lawN_c (h : ∀ i j, i ≠ 12 → S i j = R i j) (k a s : Nat) : lawN S k a s = lawN R k a s := by
  unfold lawN
  rw [h 7 k (by decide), h 8 k (by decide), h 4 k (by decide)]
theorem holdN_c (h : ∀ i j, i ≠ 12 → S i j = R i j) (a s : Nat) : ∀ k, holdN S a s k = holdN R a s k
  | 0 => rfl
  | k + 1 => by rw [holdN, holdN, holdN_c h a s k, lawN_c h]
theorem fixN_c (h : ∀ i j, i ≠ 12 → S i j = R i j) (s : Nat) : ∀ a, fixN S s a = fixN R s a
  | 0 => rfl
  | a + 1 => by rw [fixN, fixN, fixN_c h s a, holdN_c h, h 0 0 (by decide)]
theorem allN_c (h : ∀ i j, i ≠ 12 → S i j = R i j) (s : Nat) : ∀ a, allN S s a = allN R s a
  | 0 => by rw [allN, allN, h 0 0 (by decide)]
  | a + 1 => by rw [allN, allN, allN_c h s a, holdN_c h, h 0 0 (by decide)]
theorem letB_c (h : ∀ i j, i ≠ 12 → S i j = R i j) (s : Nat) : ∀ f k, letB S s f k = letB R s f k
  | 0, _ => rfl
  | f + 1, k => by rw [letB, letB, fixN_c h, allN_c h, h 0 0 (by decide), h 6 k (by decide), letB_c h s f]
theorem letN_c (h : ∀ i j, i ≠ 12 → S i j = R i j) (k s : Nat) : letN S k s = letN R k s := letB_c h s 7 k
theorem opE_c (h : ∀ i j, i ≠ 12 → S i j = R i j) (t u v : Nat) : opE S t u v = opE R t u v := by
  unfold opE
  rw [h 0 0 (by decide), h 9 u (by decide), letN_c h]
theorem trR_ne {t A B : Nat} : ∀ i j, i ≠ 12 → trR R t A B i j = R i j := fun _ _ h => if_neg h
theorem trR_dat (hD : Dat R) {t A B : Nat} (ht : t < 6) : Dat (trR R t A B) := by
  obtain ⟨h1, h2, h3, h4, h5, h6, h7⟩ := hD
  refine ⟨h1, h2, h3, h4, h5, fun a c ha hc => ?_, h7⟩
  have := h6 a c ha hc
  show (if 6 * a + c = 6 * A + B ∨ 6 * a + c = 6 * B + A then R 12 (6 * a + c) ||| 2 ^ t else R 12 (6 * a + c)) < 64
  split
  · exact Nat.or_lt_two_pow (n := 6) this (Nat.pow_lt_pow_right (by decide) ht)
  · exact this
theorem trR_st {t A B u v : Nat} (hA : A < 6) (hB : B < 6) (hu : u < 6) (hv : v < 6) : stN (trR R t A B) t true 9 9 u v = stN R t true A B u v := by
  unfold stN
  show (if v < R 0 0 then (if true = true then (if (u = 9 ∧ v = 9) ∨ (u = 9 ∧ v = 9) then 0 else prcN (trR R t A B) u v t) else 1) else 0) = _
  rw [if_neg (show ¬ ((u = 9 ∧ v = 9) ∨ (u = 9 ∧ v = 9)) by omega)]
  congr 1
  congr 1
  unfold prcN
  show (if (if 6 * u + v = 6 * A + B ∨ 6 * u + v = 6 * B + A then R 12 (6 * u + v) ||| 2 ^ t else R 12 (6 * u + v)).testBit t = true then 0 else R 5 v) = _
  by_cases hf : (u = A ∧ v = B) ∨ (u = B ∧ v = A)
  · rw [if_pos hf, if_pos (show 6 * u + v = 6 * A + B ∨ 6 * u + v = 6 * B + A by omega), Nat.testBit_or, Nat.testBit_two_pow_self, Bool.or_true, if_pos rfl]
  · rw [if_neg hf, if_neg (show ¬ (6 * u + v = 6 * A + B ∨ 6 * u + v = 6 * B + A) by omega)]
end TRE
