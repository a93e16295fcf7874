/-! ===== the least cost of a way: what rounds of lowering come to ===== -/
def Wk (E : Nat → Nat → Bool) (st : Nat → Nat → Nat) (a : Nat) : Nat → Nat → Nat → Prop
  | 0, v, c => v = a ∧ c = 0
  | n + 1, v, c => ∃ u d, Wk E st a n u d ∧ E u v = true ∧ c = d + st u v
theorem Wk.zero {E : Nat → Nat → Bool} {st : Nat → Nat → Nat} {a : Nat} : Wk E st a 0 a 0 := ⟨rfl, rfl⟩
theorem Wk.step {E : Nat → Nat → Bool} {st : Nat → Nat → Nat} {a n u v c : Nat} (h : Wk E st a n u c) (he : E u v = true) : Wk E st a (n + 1) v (c + st u v) := ⟨u, c, h, he, rfl⟩
def Lv (E : Nat → Nat → Bool) (st : Nat → Nat → Nat) (a v c n : Nat) : Prop := Wk E st a n v c ∧ (∀ n' c', Wk E st a n' v c' → c ≤ c') ∧ ∀ n', Wk E st a n' v c → n ≤ n'
def rx (E : Nat → Nat → Bool) (st : Nat → Nat → Nat) (f : Nat → Nat) (u v : Nat) : Nat → Nat := fun z => if z = v ∧ E u v = true then (if f u + st u v < f v then f u + st u v else f v) else f z
def rS (E : Nat → Nat → Bool) (st : Nat → Nat → Nat) (f : Nat → Nat) (es : Nat → Nat × Nat) : Nat → Nat → Nat
  | 0 => f
  | n + 1 => rx E st (rS E st f es n) (es n).1 (es n).2
def rR (E : Nat → Nat → Bool) (st : Nat → Nat → Nat) (f : Nat → Nat) (es : Nat → Nat × Nat) (N : Nat) : Nat → Nat → Nat
  | 0 => f
  | n + 1 => rS E st (rR E st f es N n) es N
section FAR
variable {E : Nat → Nat → Bool} {st : Nat → Nat → Nat} {a F : Nat} {f : Nat → Nat} {es : Nat → Nat × Nat}
theorem nat_least {p : Nat → Prop} (h : ∃ n, p n) : ∃ n, p n ∧ ∀ m, p m → n ≤ m := by
  obtain ⟨n, hn⟩ := h
  induction n using Nat.strongRecOn with
  | ind n ih =>
    by_cases hm : ∃ m, m < n ∧ p m
    · obtain ⟨m, h1, h2⟩ := hm
      exact ih m h1 h2
    · exact ⟨n, hn, fun m h => by
        refine Nat.le_of_not_lt fun q => hm ⟨m, q, h⟩⟩
theorem Lv_of {n v c : Nat} (h : Wk E st a n v c) : ∃ c' n', Lv E st a v c' n' := by
  obtain ⟨c', ⟨n1, h1⟩, h2⟩ := nat_least (p := fun c => ∃ n, Wk E st a n v c) ⟨c, n, h⟩
  obtain ⟨n', h3, h4⟩ := nat_least (p := fun n => Wk E st a n v c') ⟨n1, h1⟩
  exact ⟨c', n', h3, fun n2 c2 q => h2 c2 ⟨n2, q⟩, h4⟩
theorem Lv_down {n v c : Nat} (h : Lv E st a v c (n + 1)) : ∃ u c', Lv E st a u c' n := by
  obtain ⟨h1, h2, h3⟩ := h
  obtain ⟨u, c1, hw, he, rfl⟩ := h1
  refine ⟨u, c1, hw, fun n' c' q => ?_, fun n' q => ?_⟩
  · have := h2 _ _ (Wk.step q he)
    omega
  · have := h3 _ (Wk.step q he)
    omega
theorem Lv_all {v : Nat} : ∀ {n c : Nat}, Lv E st a v c n → ∀ i, i ≤ n → ∃ u c', Lv E st a u c' i := by
  intro n
  induction n generalizing v with
  | zero => intro c h i hi; rw [show i = 0 by omega]; exact ⟨v, c, h⟩
  | succ n ih =>
    intro c h i hi
    by_cases hin : i = n + 1
    · rw [hin]; exact ⟨v, c, h⟩
    · obtain ⟨u, c', h'⟩ := Lv_down h
      exact ih h' i (by omega)
theorem Wk_lt {P : Nat} (ha : a < P) (hE : ∀ u v, E u v = true → v < P) {n v c : Nat} (h : Wk E st a n v c) : v < P := by
  match n, h with
  | 0, h => rw [h.1]; exact ha
  | n + 1, ⟨u, d, _, he, _⟩ => exact hE _ _ he
theorem Wk_le (hs : ∀ u v, st u v ≤ 9) : ∀ {n v c : Nat}, Wk E st a n v c → c ≤ 9 * n
  | 0, v, c, h => by rw [h.2]; exact Nat.le_refl _
  | n + 1, v, c, ⟨u, d, h, _, e⟩ => by
    have h1 := Wk_le hs h
    have h2 := hs u v
    omega
theorem Lv_lt {P : Nat} (ha : a < P) (hE : ∀ u v, E u v = true → v < P) {n v c : Nat} (h : Lv E st a v c n) : n < P := by
  refine Classical.byContradiction fun hno => ?_
  have hall := Lv_all h
  have hg : ∃ g : Nat → Nat, ∀ i, i ≤ P → ∃ c', Lv E st a (g i) c' i := by
    refine ⟨fun i => if hi : i ≤ n then Classical.choose (hall i hi) else 0, fun i hi => ?_⟩
    have hin : i ≤ n := by omega
    simp only [dif_pos hin]
    exact Classical.choose_spec (hall i hin)
  obtain ⟨g, hg⟩ := hg
  obtain ⟨i, j, h1, h2, h3⟩ := php P g (fun i hi => by
    obtain ⟨c', q⟩ := hg i hi
    exact Wk_lt ha hE q.1)
  obtain ⟨c1, q1⟩ := hg i (by omega)
  obtain ⟨c2, q2⟩ := hg j h2
  rw [← h3] at q2
  have e1 := q1.2.1 _ _ q2.1
  have e2 := q2.2.1 _ _ q1.1
  have e3 : c1 = c2 := by omega
  rw [e3] at q1
  have := q2.2.2 _ q1.1
  omega
theorem rx_le (u v z : Nat) : rx E st f u v z ≤ f z := by
  unfold rx
  split
  · next h => rw [h.1]; split <;> omega
  · exact Nat.le_refl _
theorem rS_le (z : Nat) : ∀ n, rS E st f es n z ≤ f z
  | 0 => Nat.le_refl _
  | n + 1 => Nat.le_trans (rx_le _ _ z) (rS_le z n)
theorem rS_le2 (z n : Nat) : ∀ i, rS E st f es (n + i) z ≤ rS E st f es n z
  | 0 => Nat.le_refl _
  | i + 1 => Nat.le_trans (rx_le _ _ z) (rS_le2 z n i)
def Snd (E : Nat → Nat → Bool) (st : Nat → Nat → Nat) (a F : Nat) (f : Nat → Nat) : Prop := ∀ v, f v ≤ F ∧ (f v < F → ∃ n, Wk E st a n v (f v))
theorem Snd.rx (h : Snd E st a F f) (u v : Nat) : Snd E st a F (rx E st f u v) := by
  intro z
  have hz := h z
  have hle := rx_le (E := E) (st := st) (f := f) u v z
  refine ⟨Nat.le_trans hle hz.1, ?_⟩
  unfold _root_.Jvm.Pilot.@@N@@.rx
  split
  · next q =>
    split
    · next q2 =>
      intro hlt
      obtain ⟨n, hw⟩ := (h u).2 (by omega)
      rw [q.1]
      exact ⟨n + 1, Wk.step hw q.2⟩
    · rw [← q.1]
      exact hz.2
  · exact hz.2
theorem Snd.rS (h : Snd E st a F f) : ∀ n, Snd E st a F (rS E st f es n)
  | 0 => h
  | n + 1 => (Snd.rS h n).rx _ _
theorem Snd.rR {N : Nat} (h : Snd E st a F f) : ∀ n, Snd E st a F (rR E st f es N n)
  | 0 => h
  | n + 1 => (Snd.rR h n).rS N
def Cmp (E : Nat → Nat → Bool) (st : Nat → Nat → Nat) (a : Nat) (n : Nat) (f : Nat → Nat) : Prop := ∀ m v c, m ≤ n → Wk E st a m v c → f v ≤ c
theorem Cmp.rS {N n : Nat} (hc : ∀ u v, E u v = true → ∃ i, i < N ∧ es i = (u, v)) (h : Cmp E st a n f) : Cmp E st a (n + 1) (rS E st f es N) := by
  intro m v c hm hw
  match m, hw with
  | 0, hw => exact Nat.le_trans (rS_le _ N) (h 0 _ _ (Nat.zero_le _) hw)
  | m + 1, ⟨u, c, hw, he, e⟩ =>
    rw [e]
    have h1 := h m u c (by omega) hw
    obtain ⟨i, hi, hes⟩ := hc u v he
    have h2 := rS_le (E := E) (st := st) (f := f) (es := es) u i
    have h3 := rS_le2 (E := E) (st := st) (f := f) (es := es) v (i + 1) (N - (i + 1))
    rw [show i + 1 + (N - (i + 1)) = N by omega] at h3
    refine Nat.le_trans h3 ?_
    show rx E st (_root_.Jvm.Pilot.@@N@@.rS E st f es i) (es i).1 (es i).2 v ≤ _
    rw [hes]
    unfold _root_.Jvm.Pilot.@@N@@.rx
    rw [if_pos ⟨rfl, he⟩]
    show (if _root_.Jvm.Pilot.@@N@@.rS E st f es i u + st u v < _root_.Jvm.Pilot.@@N@@.rS E st f es i v then _root_.Jvm.Pilot.@@N@@.rS E st f es i u + st u v else _root_.Jvm.Pilot.@@N@@.rS E st f es i v) ≤ _
    split <;> omega
theorem Cmp.rR {N : Nat} (hc : ∀ u v, E u v = true → ∃ i, i < N ∧ es i = (u, v)) (h : Cmp E st a 0 f) : ∀ n, Cmp E st a n (rR E st f es N n)
  | 0 => h
  | n + 1 => (Cmp.rR hc h n).rS hc
/-- what the rounds come to: the least cost, or F where there is no way -/
def Dst (E : Nat → Nat → Bool) (st : Nat → Nat → Nat) (a F v x : Nat) : Prop := (∃ n, Lv E st a v x n ∧ x ≤ 45) ∨ ((∀ n c, ¬ Wk E st a n v c) ∧ x = F)
def f0 (a F : Nat) : Nat → Nat := fun z => if z = a then 0 else F
theorem rR_end {N P r : Nat} (hF : 0 < F) (hP : P ≤ 6) (ha : a < P) (hE : ∀ u v, E u v = true → v < P) (hs : ∀ u v, st u v ≤ 9) (hc : ∀ u v, E u v = true → ∃ i, i < N ∧ es i = (u, v)) (hr : P ≤ r + 1) (hF2 : 45 < F) (v : Nat) : Dst E st a F v (rR E st (f0 a F) es N r v) := by
  have hS : Snd E st a F (f0 a F) := fun z => by
    unfold f0
    split
    · next h => rw [h]; exact ⟨Nat.zero_le _, fun _ => ⟨0, Wk.zero⟩⟩
    · exact ⟨Nat.le_refl _, fun h => absurd h (Nat.lt_irrefl _)⟩
  have hC : Cmp E st a 0 (f0 a F) := fun m z c hm hw => by
    rw [show m = 0 by omega] at hw
    show (if z = a then 0 else F) ≤ c
    rw [if_pos hw.1]
    exact Nat.zero_le _
  have s1 := hS.rR (es := es) (N := N) r v
  have c1 := Cmp.rR hc hC r
  by_cases hw : ∃ n c, Wk E st a n v c
  · obtain ⟨n, c, hw⟩ := hw
    obtain ⟨c', n', hL⟩ := Lv_of hw
    have hn := Lv_lt ha hE hL
    have h45 := Wk_le hs hL.1
    have h1 := c1 n' v c' (by omega) hL.1
    obtain ⟨n2, h2⟩ := s1.2 (by omega)
    have h3 := hL.2.1 _ _ h2
    have e : rR E st (f0 a F) es N r v = c' := by omega
    rw [e]
    exact Or.inl ⟨n', hL, by omega⟩
  · refine Or.inr ⟨fun n c q => hw ⟨n, c, q⟩, ?_⟩
    refine Classical.byContradiction fun hne => hw ?_
    obtain ⟨n, h⟩ := s1.2 (by omega)
    exact ⟨n, _, h⟩
theorem Dst.uniq {v x y G : Nat} (h1 : Dst E st a F v x) (h2 : Dst E st a G v y) (hF : 45 < F) (hG : 45 < G) : (x < F ↔ y < G) ∧ (x < F → x = y) := by
  rcases h1 with ⟨n, h1, l1⟩ | ⟨h1, e1⟩
  · rcases h2 with ⟨m, h2, l2⟩ | ⟨h2, e2⟩
    · have a1 := h1.2.1 _ _ h2.1
      have a2 := h2.2.1 _ _ h1.1
      exact ⟨⟨fun _ => by omega, fun _ => by omega⟩, fun _ => by omega⟩
    · exact absurd h1.1 (h2 _ _)
  · rcases h2 with ⟨m, h2, l2⟩ | ⟨h2, e2⟩
    · exact absurd h2.1 (h1 _ _)
    · exact ⟨⟨fun _ => by omega, fun _ => by omega⟩, fun _ => by omega⟩
end FAR
