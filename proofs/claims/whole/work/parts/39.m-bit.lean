/-! ===== a bit set and cleared ===== -/
set_option maxRecDepth 100000 in
set_option maxHeartbeats 4000000 in
theorem bit_clr : ∀ x, x < 64 → ∀ t, t < 6 → x.testBit t = false → nI (x ||| 2 ^ t) &&& (nI (2 ^ t) ^^^ (-1)) = nI x := by decide
theorem and_bit {x t : Nat} : (x &&& 2 ^ t = 0) ↔ x.testBit t = false := by
  constructor
  · intro h
    have := congrArg (fun z => z.testBit t) h
    simpa [Nat.testBit_and, Nat.testBit_two_pow_self] using this
  · intro h
    refine Nat.eq_of_testBit_eq fun i => ?_
    rw [Nat.testBit_and, Nat.zero_testBit]
    by_cases hi : i = t
    · rw [hi, h, Bool.false_and]
    · rw [Nat.testBit_two_pow_of_ne (fun q => hi q.symm), Bool.and_false]
