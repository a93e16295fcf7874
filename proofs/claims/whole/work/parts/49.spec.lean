/-! ===== items of a text ===== -/
def frm (c : Nat) : List Nat := if c = 107 then [0, 1, 2, 5] else if c = 97 then [6, 7] else if c = 110 then [6, 7] else if c = 115 then [6, 7] else if c = 104 then [6, 7, 4] else if c = 121 then [6, 7, 3] else if c = 116 then [3, 4, 2, 6] else []
def rom (c : Nat) (R : DR) : Bool := if c = 107 then decide (R 0 0 < 6) else if c = 116 then decide (R 1 0 < 6) else if c = 121 then decide (R 2 0 < 12) else true
def loN (r : Nat) : Nat := [1, 0, 0, 0, 1].getD r 0
def hiN (r : Nat) : Nat := [20, 63, 9, 5, 5].getD r 0
def mbB (P r s0 v : Nat) : Bool := if r = 5 then decide (v < P ∨ v = 9) else if r = 6 then decide (v < P) else if r = 7 then decide (v < P ∧ v ≠ s0) else decide (loN r ≤ v ∧ v ≤ hiN r)
def arg (f : Nat → Nat) (n P : Nat) : List Nat → Nat → (Nat → Nat) → Nat → Bool × Nat × (Nat → Nat)
  | [], _, sd, q => (true, q, sd)
  | r :: l, i, sd, q => if (tk f n q).1 = 256 ∧ mbB P r (tset sd i (tk f n q).2.1 0) (tk f n q).2.1 = true then arg f n P l (i + 1) (tset sd i (tk f n q).2.1) (tk f n q).2.2.2 else (false, (tk f n q).2.2.1, sd)
def tellK (R : DR) (sd : Nat → Nat) : DR := fun i j => match i with
  | 0 => R 0 0 + 1
  | 3 => if j = R 0 0 then sd 0 else R 3 j
  | 4 => if j = R 0 0 then sd 1 else R 4 j
  | 5 => if j = R 0 0 then sd 2 else R 5 j
  | 6 => if j = R 0 0 then sd 3 else R 6 j
  | i => R i j
def tellL (h : Nat) (R : DR) (sd : Nat → Nat) : DR := fun i j => match i with
  | 7 => if j = sd 0 then h else R 7 j
  | 8 => if j = sd 0 then sd 1 else R 8 j
  | i => R i j
def tellS (R : DR) (sd : Nat → Nat) : DR := fun i j => match i with
  | 9 => if j = sd 1 then R 9 j ||| 2 ^ sd 0 else if j = sd 0 then R 9 j ||| 2 ^ sd 1 else R 9 j
  | i => R i j
def tellH (R : DR) (sd : Nat → Nat) : DR := fun i j => match i with
  | 10 => if j = sd 0 then sd 1 else R 10 j
  | 11 => if j = sd 0 then sd 2 else R 11 j
  | i => R i j
def tellY (R : DR) (sd : Nat → Nat) : DR := fun i j => match i with
  | 2 => R 2 0 + 1
  | 12 => if j = 6 * sd 1 + sd 0 then R 12 j ||| 2 ^ sd 2 else if j = 6 * sd 0 + sd 1 then R 12 j ||| 2 ^ sd 2 else R 12 j
  | i => R i j
def tellT (R : DR) (sd : Nat → Nat) : DR := fun i j => match i with
  | 1 => R 1 0 + 1
  | 13 => if j = R 1 0 then sd 0 else R 13 j
  | 14 => if j = R 1 0 then sd 1 else R 14 j
  | 15 => if j = R 1 0 then sd 2 else R 15 j
  | 16 => if j = R 1 0 then sd 3 else R 16 j
  | i => R i j
def tell (c : Nat) (R : DR) (sd : Nat → Nat) : DR := if c = 107 then tellK R sd else if c = 97 then tellL 1 R sd else if c = 110 then tellL 2 R sd else if c = 115 then tellS R sd else if c = 104 then tellH R sd else if c = 121 then tellY R sd else tellT R sd
/-- an item from its letter on: whether it can stand, what follows it or where it is at fault, what is told then -/
def itm (f : Nat → Nat) (n : Nat) (t : Nat × Nat × Nat × Nat) (R : DR) : Bool × Nat × DR :=
  if frm t.1 = [] ∨ rom t.1 R = false then (false, t.2.2.1, R)
  else if (arg f n (R 0 0) (frm t.1) 0 (fun _ => 0) t.2.2.2).1 = true then
    (if (tk f n (arg f n (R 0 0) (frm t.1) 0 (fun _ => 0) t.2.2.2).2.1).1 = 59 then (true, (tk f n (arg f n (R 0 0) (frm t.1) 0 (fun _ => 0) t.2.2.2).2.1).2.2.2, tell t.1 R (arg f n (R 0 0) (frm t.1) 0 (fun _ => 0) t.2.2.2).2.2)
     else (false, (tk f n (arg f n (R 0 0) (frm t.1) 0 (fun _ => 0) t.2.2.2).2.1).2.2.1, R))
  else (false, (arg f n (R 0 0) (frm t.1) 0 (fun _ => 0) t.2.2.2).2.1, R)
def rdl (f : Nat → Nat) (n : Nat) : Nat → (Nat × Nat × Nat × Nat) → DR → Nat → Bool × Nat × DR
  | 0, _, R, it => (true, it, R)
  | k + 1, t, R, it => if t.1 = 257 then (true, it, R) else if (itm f n t R).1 = true then rdl f n k (tk f n (itm f n t R).2.1) (itm f n t R).2.2 (it + 1) else (false, (itm f n t R).2.1, R)
def R0 : DR := fun i _ => if i = 10 then 9 else 0
/-- what a text comes to -/
def rlm (f : Nat → Nat) (n : Nat) : Bool × Nat × DR := rdl f n 201 (tk f n 0) R0 0
def Inv (R : DR) : Prop := Dat R ∧ Sym R ∧ ∀ k, R 0 0 ≤ k → k < 6 → R 7 k = 0 ∧ R 10 k = 9
theorem Inv_R0 : Inv R0 := by
  refine ⟨⟨by decide, by decide, by decide, fun k hk => absurd hk (Nat.not_lt_zero _), fun k hk => ?_, fun a c _ _ => by show 0 < 64; decide, fun t ht => absurd ht (Nat.not_lt_zero _)⟩, fun _ _ _ _ => rfl, fun _ _ _ => ⟨rfl, rfl⟩⟩
  exact ⟨by show 0 ≤ 2; decide, fun h => absurd rfl h, by show 0 < 1; decide, Or.inr rfl, fun h => absurd rfl h, fun _ => rfl, by show 9 ≠ k; omega⟩
theorem Inv.K {R : DR} {sd : Nat → Nat} (h : Inv R) (hP : R 0 0 < 6) (h0 : 1 ≤ sd 0 ∧ sd 0 ≤ 20) (h1 : sd 1 < 64) (h2 : sd 2 ≤ 9) (h3 : sd 3 < R 0 0 ∨ sd 3 = 9) : Inv (tellK R sd) := by
  obtain ⟨⟨d1, d2, d3, d4, d5, d6, d7⟩, hY, hF⟩ := h
  refine ⟨⟨by show R 0 0 + 1 ≤ 6; omega, d2, d3, fun k hk => ?_, fun k hk => ?_, d6, fun t ht => ?_⟩, hY, fun k h1 h2 => hF k (by have : R 0 0 + 1 ≤ k := h1; omega) h2⟩
  · have hk : k < R 0 0 + 1 := hk
    show 1 ≤ (if k = R 0 0 then sd 0 else R 3 k) ∧ (if k = R 0 0 then sd 0 else R 3 k) ≤ 20 ∧ (if k = R 0 0 then sd 1 else R 4 k) < 64 ∧ (if k = R 0 0 then sd 2 else R 5 k) ≤ 9 ∧ ((if k = R 0 0 then sd 3 else R 6 k) < k ∨ (if k = R 0 0 then sd 3 else R 6 k) = 9)
    by_cases e : k = R 0 0
    · simp only [if_pos e]
      exact ⟨h0.1, h0.2, h1, h2, by omega⟩
    · simp only [if_neg e]
      exact d4 k (by omega)
  · obtain ⟨a1, a2, a3, a4, a5, a6, a7⟩ := d5 k hk
    refine ⟨a1, fun h => ?_, ?_, ?_, a5, fun h => a6 ?_, a7⟩
    · have := a2 h
      show R 8 k < R 0 0 + 1
      omega
    · show R 9 k < 2 ^ (R 0 0 + 1)
      exact Nat.lt_of_lt_of_le a3 (Nat.pow_le_pow_right (by decide) (Nat.le_succ _))
    · show R 10 k < R 0 0 + 1 ∨ R 10 k = 9
      omega
    · have : R 0 0 + 1 ≤ k := h
      omega
  · obtain ⟨a1, a2, a3, a4, a5⟩ := d7 t ht
    exact ⟨a1, a2, a3, a4, by show R 16 t < R 0 0 + 1; omega⟩
theorem Inv.L {R : DR} {sd : Nat → Nat} {hw : Nat} (h : Inv R) (hh : hw ≤ 2) (h0 : sd 0 < R 0 0) (h1 : sd 1 < R 0 0) : Inv (tellL hw R sd) := by
  obtain ⟨⟨d1, d2, d3, d4, d5, d6, d7⟩, hY, hF⟩ := h
  refine ⟨⟨d1, d2, d3, d4, fun k hk => ?_, d6, d7⟩, hY, fun k q1 q2 => ?_⟩
  · obtain ⟨a1, a2, a3, a4, a5, a6, a7⟩ := d5 k hk
    refine ⟨?_, ?_, a3, a4, a5, a6, a7⟩
    · show (if k = sd 0 then hw else R 7 k) ≤ 2
      split <;> omega
    · show (if k = sd 0 then hw else R 7 k) ≠ 0 → (if k = sd 0 then sd 1 else R 8 k) < R 0 0
      by_cases e : k = sd 0
      · simp only [if_pos e]; exact fun _ => h1
      · simp only [if_neg e]; exact a2
  · have q1 : R 0 0 ≤ k := q1
    refine ⟨?_, (hF k q1 q2).2⟩
    show (if k = sd 0 then hw else R 7 k) = 0
    rw [if_neg (by omega)]
    exact (hF k q1 q2).1
theorem Inv.S {R : DR} {sd : Nat → Nat} (h : Inv R) (h0 : sd 0 < R 0 0) (h1 : sd 1 < R 0 0) : Inv (tellS R sd) := by
  obtain ⟨⟨d1, d2, d3, d4, d5, d6, d7⟩, hY, hF⟩ := h
  refine ⟨⟨d1, d2, d3, d4, fun k hk => ?_, d6, d7⟩, hY, hF⟩
  obtain ⟨a1, a2, a3, a4, a5, a6, a7⟩ := d5 k hk
  refine ⟨a1, a2, ?_, a4, a5, ?_, a7⟩
  · show (if k = sd 1 then R 9 k ||| 2 ^ sd 0 else if k = sd 0 then R 9 k ||| 2 ^ sd 1 else R 9 k) < 2 ^ R 0 0
    split
    · exact Nat.or_lt_two_pow a3 (Nat.pow_lt_pow_right (by decide) h0)
    · split
      · exact Nat.or_lt_two_pow a3 (Nat.pow_lt_pow_right (by decide) h1)
      · exact a3
  · intro q
    have q : R 0 0 ≤ k := q
    show (if k = sd 1 then R 9 k ||| 2 ^ sd 0 else if k = sd 0 then R 9 k ||| 2 ^ sd 1 else R 9 k) = 0
    rw [if_neg (by omega), if_neg (by omega)]
    exact a6 q
theorem Inv.H {R : DR} {sd : Nat → Nat} (h : Inv R) (h0 : sd 0 < R 0 0) (h1 : sd 1 < R 0 0) (hne : sd 1 ≠ sd 0) (h2 : sd 2 ≤ 5) : Inv (tellH R sd) := by
  obtain ⟨⟨d1, d2, d3, d4, d5, d6, d7⟩, hY, hF⟩ := h
  refine ⟨⟨d1, d2, d3, d4, fun k hk => ?_, d6, d7⟩, hY, fun k q1 q2 => ?_⟩
  · obtain ⟨a1, a2, a3, a4, a5, a6, a7⟩ := d5 k hk
    refine ⟨a1, a2, a3, ?_, ?_, a6, ?_⟩
    · show (if k = sd 0 then sd 1 else R 10 k) < R 0 0 ∨ (if k = sd 0 then sd 1 else R 10 k) = 9
      by_cases e : k = sd 0
      · simp only [if_pos e]; exact Or.inl h1
      · simp only [if_neg e]; exact a4
    · show (if k = sd 0 then sd 1 else R 10 k) ≠ 9 → (if k = sd 0 then sd 2 else R 11 k) ≤ 5
      by_cases e : k = sd 0
      · simp only [if_pos e]; exact fun _ => h2
      · simp only [if_neg e]; exact a5
    · show (if k = sd 0 then sd 1 else R 10 k) ≠ k
      by_cases e : k = sd 0
      · simp only [if_pos e]; omega
      · simp only [if_neg e]; exact a7
  · have q1 : R 0 0 ≤ k := q1
    refine ⟨(hF k q1 q2).1, ?_⟩
    show (if k = sd 0 then sd 1 else R 10 k) = 9
    rw [if_neg (by omega)]
    exact (hF k q1 q2).2
theorem Inv.Y {R : DR} {sd : Nat → Nat} (h : Inv R) (hT : R 2 0 < 12) (h0 : sd 0 < R 0 0) (h1 : sd 1 < R 0 0) (h2 : sd 2 < 6) : Inv (tellY R sd) := by
  obtain ⟨⟨d1, d2, d3, d4, d5, d6, d7⟩, hY, hF⟩ := h
  refine ⟨⟨d1, d2, by show R 2 0 + 1 ≤ 12; omega, d4, d5, fun a c ha hc => ?_, d7⟩, fun a c ha hc => ?_, hF⟩
  · have hl := d6 a c ha hc
    have h64 : 2 ^ sd 2 < 2 ^ 6 := Nat.pow_lt_pow_right (by decide) h2
    show (if 6 * a + c = 6 * sd 1 + sd 0 then R 12 (6 * a + c) ||| 2 ^ sd 2 else if 6 * a + c = 6 * sd 0 + sd 1 then R 12 (6 * a + c) ||| 2 ^ sd 2 else R 12 (6 * a + c)) < 64
    split
    · exact Nat.or_lt_two_pow (n := 6) hl h64
    · split
      · exact Nat.or_lt_two_pow (n := 6) hl h64
      · exact hl
  · have hs := hY a c ha hc
    show (if 6 * a + c = 6 * sd 1 + sd 0 then R 12 (6 * a + c) ||| 2 ^ sd 2 else if 6 * a + c = 6 * sd 0 + sd 1 then R 12 (6 * a + c) ||| 2 ^ sd 2 else R 12 (6 * a + c)) = (if 6 * c + a = 6 * sd 1 + sd 0 then R 12 (6 * c + a) ||| 2 ^ sd 2 else if 6 * c + a = 6 * sd 0 + sd 1 then R 12 (6 * c + a) ||| 2 ^ sd 2 else R 12 (6 * c + a))
    rw [hs]
    by_cases e1 : 6 * a + c = 6 * sd 1 + sd 0
    · rw [if_pos e1]
      by_cases e2 : 6 * c + a = 6 * sd 1 + sd 0
      · rw [if_pos e2]
      · rw [if_neg e2, if_pos (by omega)]
    · rw [if_neg e1]
      by_cases e2 : 6 * a + c = 6 * sd 0 + sd 1
      · rw [if_pos e2, if_pos (by omega)]
      · rw [if_neg e2, if_neg (by omega), if_neg (by omega)]
theorem Inv.T {R : DR} {sd : Nat → Nat} (h : Inv R) (hT : R 1 0 < 6) (h0 : sd 0 < 6) (h1 : 1 ≤ sd 1 ∧ sd 1 ≤ 5) (h2 : sd 2 ≤ 9) (h3 : sd 3 < R 0 0) : Inv (tellT R sd) := by
  obtain ⟨⟨d1, d2, d3, d4, d5, d6, d7⟩, hY, hF⟩ := h
  refine ⟨⟨d1, by show R 1 0 + 1 ≤ 6; omega, d3, d4, d5, d6, fun t ht => ?_⟩, hY, hF⟩
  have ht : t < R 1 0 + 1 := ht
  show (if t = R 1 0 then sd 0 else R 13 t) < 6 ∧ 1 ≤ (if t = R 1 0 then sd 1 else R 14 t) ∧ (if t = R 1 0 then sd 1 else R 14 t) ≤ 5 ∧ (if t = R 1 0 then sd 2 else R 15 t) ≤ 9 ∧ (if t = R 1 0 then sd 3 else R 16 t) < R 0 0
  by_cases e : t = R 1 0
  · simp only [if_pos e]
    exact ⟨h0, h1.1, h1.2, h2, h3⟩
  · simp only [if_neg e]
    exact d7 t (by omega)
theorem arg_ok {f : Nat → Nat} {n P : Nat} : ∀ (l : List Nat) (i : Nat) (sd : Nat → Nat) (q : Nat), (arg f n P l i sd q).1 = true → (∀ j, j < i → (arg f n P l i sd q).2.2 j = sd j) ∧ ∀ j, j < l.length → mbB P (l.getD j 0) ((arg f n P l i sd q).2.2 0) ((arg f n P l i sd q).2.2 (i + j)) = true
  | [], i, sd, q, _ => ⟨fun _ _ => rfl, fun j hj => absurd hj (Nat.not_lt_zero _)⟩
  | r :: l, i, sd, q, h => by
    rw [arg] at h ⊢
    by_cases hc : (tk f n q).1 = 256 ∧ mbB P r (tset sd i (tk f n q).2.1 0) (tk f n q).2.1 = true
    · rw [if_pos hc] at h ⊢
      obtain ⟨g1, g2⟩ := arg_ok l (i + 1) _ _ h
      refine ⟨fun j hj => ?_, fun j hj => ?_⟩
      · rw [g1 j (by omega)]
        exact if_neg (by omega)
      · cases j with
        | zero =>
          rw [g1 0 (by omega), g1 (i + 0) (by omega)]
          show mbB P r _ (tset sd i _ i) = true
          rw [show tset sd i (tk f n q).2.1 i = (tk f n q).2.1 from if_pos rfl]
          exact hc.2
        | succ j =>
          have := g2 j (by rw [List.length_cons] at hj; omega)
          rw [show i + (j + 1) = i + 1 + j by omega]
          exact this
    · rw [if_neg hc] at h
      cases h
theorem arg_q {f : Nat → Nat} {n P : Nat} (hn : n ≤ 200) (hf : ∀ i, i < n → f i < 256) : ∀ (l : List Nat) (i : Nat) (sd : Nat → Nat) (q : Nat), q ≤ n → q ≤ (arg f n P l i sd q).2.1 ∧ (arg f n P l i sd q).2.1 ≤ n
  | [], i, sd, q, hq => ⟨Nat.le_refl _, hq⟩
  | r :: l, i, sd, q, hq => by
    have ht := tk_spec hn hf hq
    rw [arg]
    split
    · have := arg_q (P := P) hn hf l (i + 1) (tset sd i (tk f n q).2.1) (tk f n q).2.2.2 ht.2.2.2.2.2.1
      omega
    · exact ⟨ht.2.2.1, ht.2.2.2.1⟩
theorem frm_cases {c : Nat} (h : frm c ≠ []) : c = 107 ∨ c = 97 ∨ c = 110 ∨ c = 115 ∨ c = 104 ∨ c = 121 ∨ c = 116 := by
  unfold frm at h
  by_cases h1 : c = 107
  · exact Or.inl h1
  by_cases h2 : c = 97
  · exact Or.inr (Or.inl h2)
  by_cases h3 : c = 110
  · exact Or.inr (Or.inr (Or.inl h3))
  by_cases h4 : c = 115
  · exact Or.inr (Or.inr (Or.inr (Or.inl h4)))
  by_cases h5 : c = 104
  · exact Or.inr (Or.inr (Or.inr (Or.inr (Or.inl h5))))
  by_cases h6 : c = 121
  · exact Or.inr (Or.inr (Or.inr (Or.inr (Or.inr (Or.inl h6)))))
  by_cases h7 : c = 116
  · exact Or.inr (Or.inr (Or.inr (Or.inr (Or.inr (Or.inr h7)))))
  rw [if_neg h1, if_neg h2, if_neg h3, if_neg h4, if_neg h5, if_neg h6, if_neg h7] at h
  exact absurd rfl h
theorem Inv.tell {c : Nat} {R : DR} {sd : Nat → Nat} (hI : Inv R) (hf : frm c ≠ []) (hr : rom c R = true) (ha : ∀ j, j < (frm c).length → mbB (R 0 0) ((frm c).getD j 0) (sd 0) (sd j) = true) : Inv (tell c R sd) := by
  rcases frm_cases hf with rfl | rfl | rfl | rfl | rfl | rfl | rfl
  · have a0 : decide (1 ≤ sd 0 ∧ sd 0 ≤ 20) = true := ha 0 (by decide)
    have a1 : decide (0 ≤ sd 1 ∧ sd 1 ≤ 63) = true := ha 1 (by decide)
    have a2 : decide (0 ≤ sd 2 ∧ sd 2 ≤ 9) = true := ha 2 (by decide)
    have a3 : decide (sd 3 < R 0 0 ∨ sd 3 = 9) = true := ha 3 (by decide)
    have hr : decide (R 0 0 < 6) = true := hr
    exact hI.K (of_decide_eq_true hr) (of_decide_eq_true a0) (by have := of_decide_eq_true a1; omega) (of_decide_eq_true a2).2 (of_decide_eq_true a3)
  · have a0 : decide (sd 0 < R 0 0) = true := ha 0 (by decide)
    have a1 : decide (sd 1 < R 0 0 ∧ sd 1 ≠ sd 0) = true := ha 1 (by decide)
    exact hI.L (by decide) (of_decide_eq_true a0) (of_decide_eq_true a1).1
  · have a0 : decide (sd 0 < R 0 0) = true := ha 0 (by decide)
    have a1 : decide (sd 1 < R 0 0 ∧ sd 1 ≠ sd 0) = true := ha 1 (by decide)
    exact hI.L (by decide) (of_decide_eq_true a0) (of_decide_eq_true a1).1
  · have a0 : decide (sd 0 < R 0 0) = true := ha 0 (by decide)
    have a1 : decide (sd 1 < R 0 0 ∧ sd 1 ≠ sd 0) = true := ha 1 (by decide)
    exact hI.S (of_decide_eq_true a0) (of_decide_eq_true a1).1
  · have a0 : decide (sd 0 < R 0 0) = true := ha 0 (by decide)
    have a1 : decide (sd 1 < R 0 0 ∧ sd 1 ≠ sd 0) = true := ha 1 (by decide)
    have a2 : decide (1 ≤ sd 2 ∧ sd 2 ≤ 5) = true := ha 2 (by decide)
    exact hI.H (of_decide_eq_true a0) (of_decide_eq_true a1).1 (of_decide_eq_true a1).2 (of_decide_eq_true a2).2
  · have a0 : decide (sd 0 < R 0 0) = true := ha 0 (by decide)
    have a1 : decide (sd 1 < R 0 0 ∧ sd 1 ≠ sd 0) = true := ha 1 (by decide)
    have a2 : decide (0 ≤ sd 2 ∧ sd 2 ≤ 5) = true := ha 2 (by decide)
    have hr : decide (R 2 0 < 12) = true := hr
    exact hI.Y (of_decide_eq_true hr) (of_decide_eq_true a0) (of_decide_eq_true a1).1 (by have := of_decide_eq_true a2; omega)
  · have a0 : decide (0 ≤ sd 0 ∧ sd 0 ≤ 5) = true := ha 0 (by decide)
    have a1 : decide (1 ≤ sd 1 ∧ sd 1 ≤ 5) = true := ha 1 (by decide)
    have a2 : decide (0 ≤ sd 2 ∧ sd 2 ≤ 9) = true := ha 2 (by decide)
    have a3 : decide (sd 3 < R 0 0) = true := ha 3 (by decide)
    have hr : decide (R 1 0 < 6) = true := hr
    exact hI.T (of_decide_eq_true hr) (by have := of_decide_eq_true a0; omega) (of_decide_eq_true a1) (of_decide_eq_true a2).2 (of_decide_eq_true a3)
