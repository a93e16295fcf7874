/-! ===== saves: the model ===== -/
theorem MD.tre {mem m : pw_M} {R S : DR} {A : Nat → Prop} (h : MD mem R) (hA : Ag A mem m) (h95 : A 95) (hq : ∀ q, 97 ≤ q → q ≤ 102 → q ≠ 99 → A q) (hs : ∀ i j, i ≠ 12 → S i j = R i j) (h99 : ∀ a c, a < 6 → c < 6 → iv m 99 (6 * a + c) = nI (S 12 (6 * a + c))) : MD m S := by
  obtain ⟨h0, h1, h2, h3, h4, h5⟩ := h
  refine ⟨by rw [hA.fi h95, hs 0 0 (by decide)]; exact h0, by rw [hA.fi h95, hs 1 0 (by decide)]; exact h1, by rw [hA.fi h95, hs 2 0 (by decide)]; exact h2, fun k hk => ?_, fun a c ha hc => ⟨?_, h99 a c ha hc⟩, fun t ht => ?_⟩
  · rw [hs 0 0 (by decide)] at hk
    simp only [hA.iv (hq 97 (by decide) (by decide) (by decide)), hs 3 k (by decide), hs 4 k (by decide), hs 5 k (by decide), hs 6 k (by decide), hs 7 k (by decide), hs 8 k (by decide), hs 10 k (by decide), hs 11 k (by decide)]
    exact h3 k hk
  · rw [hA.iv (hq 98 (by decide) (by decide) (by decide)), hs 9 a (by decide)]; exact (h4 a c ha hc).1
  · rw [hs 1 0 (by decide)] at ht
    rw [hA.iv (hq 100 (by decide) (by decide) (by decide)), hA.iv (hq 101 (by decide) (by decide) (by decide)), hA.iv (hq 102 (by decide) (by decide) (by decide)), hs 13 t (by decide), hs 14 t (by decide), hs 15 t (by decide)]
    exact h5 t ht
