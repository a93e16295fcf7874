/-! ===== the least paid with one more treaty: class and model alike ===== -/
theorem Wk_c {E E' : Nat → Nat → Bool} {st st' : Nat → Nat → Nat} {a : Nat} (hE : ∀ u v, E' u v = E u v) (hs : ∀ u v, E u v = true → st' u v = st u v) : ∀ n v c, Wk E' st' a n v c → Wk E st a n v c
  | 0, _, _, h => h
  | n + 1, v, c, ⟨u, d, h, he, e⟩ => by
    rw [hE] at he
    rw [hs u v he] at e
    exact ⟨u, d, Wk_c hE hs n u d h, he, e⟩
theorem Dst_c {E E' : Nat → Nat → Bool} {st st' : Nat → Nat → Nat} {a F v x : Nat} (hE : ∀ u v, E' u v = E u v) (hs : ∀ u v, E u v = true → st' u v = st u v) (h : Dst E' st' a F v x) : Dst E st a F v x := by
  have k1 := Wk_c (a := a) hE hs
  have k2 := Wk_c (a := a) (E := E') (E' := E) (st := st') (st' := st) (fun u v => (hE u v).symm) (fun u v he => (hs u v (by rw [← hE]; exact he)).symm)
  rcases h with ⟨n, ⟨h1, h2, h3⟩, h4⟩ | ⟨h1, h2⟩
  · exact Or.inl ⟨n, ⟨k1 _ _ _ h1, fun n' c' q => h2 n' c' (k2 _ _ _ q), fun n' q => h3 n' (k2 _ _ _ q)⟩, h4⟩
  · exact Or.inr ⟨fun n c q => h1 n c (k2 _ _ _ q), h2⟩
theorem lst_tr {R : DR} (hD : Dat R) {t A B a k : Nat} (ht : t < 6) (hA : A < 6) (hB : B < 6) (ha : a < R 0 0) : (lstX R t true A B a k < 1000000 ↔ lstM (trR R t A B) t true a k < 100000) ∧ (lstX R t true A B a k < 1000000 → lstX R t true A B a k = lstM (trR R t A B) t true a k) := by
  have h6 := hD.1
  have h1 := lstM_dst (trR_dat hD (A := A) (B := B) ht) (t := t) (a := a) (k := k) (pr := true) ha
  refine (lstX_dst hD (A := A) (B := B) (k := k) (t := t) (pr := true) ha).uniq (Dst_c (fun u v => opE_c trR_ne t u v) (fun u v he => ?_) h1) (by decide) (by decide)
  obtain ⟨e1, e2⟩ := opE_lt he
  exact trR_st hA hB (by omega) (by omega)
/-- a treaty opens no way and shuts none -/
theorem lst_open {R : DR} (hD : Dat R) {t A B a k : Nat} (ha : a < R 0 0) : lstX R t true A B a k < 1000000 ↔ lstX R t true 9 9 a k < 1000000 := by
  have key : ∀ A B C D : Nat, lstX R t true A B a k < 1000000 → lstX R t true C D a k < 1000000 := fun A B C D h => by
    rcases lstX_dst hD (A := A) (B := B) (k := k) (t := t) (pr := true) ha with ⟨n, h1, _⟩ | ⟨_, h1⟩
    · rcases lstX_dst hD (A := C) (B := D) (k := k) (t := t) (pr := true) ha with ⟨m, _, h2⟩ | ⟨h2, _⟩
      · omega
      · exfalso
        have walk : ∀ n v c, Wk (opE R t) (stN R t true A B) a n v c → ∃ c', Wk (opE R t) (stN R t true C D) a n v c' := fun n => by
          induction n with
          | zero => intro v c h; exact ⟨c, h⟩
          | succ n ih =>
            intro v c h
            obtain ⟨u, d, hu, he, _⟩ := h
            obtain ⟨d', hd'⟩ := ih u d hu
            exact ⟨_, u, d', hd', he, rfl⟩
        obtain ⟨c', hc'⟩ := walk n k _ h1.1
        exact h2 _ _ hc'
    · omega
  exact ⟨key _ _ _ _, key _ _ _ _⟩
