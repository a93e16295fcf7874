/-! ===== stitches: class and model ===== -/
theorem php : ∀ (m : Nat) (g : Nat → Nat), (∀ i, i ≤ m → g i < m) → ∃ i j, i < j ∧ j ≤ m ∧ g i = g j
  | 0, g, h => absurd (h 0 (Nat.le_refl _)) (Nat.not_lt_zero _)
  | m + 1, g, h => by
    by_cases he : ∃ i, i ≤ m ∧ g i = g (m + 1)
    · obtain ⟨i, hi, e⟩ := he
      exact ⟨i, m + 1, by omega, Nat.le_refl _, e⟩
    · have hne : ∀ i, i ≤ m → g i ≠ g (m + 1) := fun i hi e => he ⟨i, hi, e⟩
      have hl := h (m + 1) (Nat.le_refl _)
      obtain ⟨i, j, h1, h2, h3⟩ := php m (fun i => if g (m + 1) < g i then g i - 1 else g i) (fun i hi => by
        have a1 := hne i hi
        have a2 := h i (by omega)
        show (if g (m + 1) < g i then g i - 1 else g i) < m
        split <;> omega)
      refine ⟨i, j, h1, by omega, ?_⟩
      have a1 := hne i (by omega)
      have a2 := hne j h2
      have h4 : (if g (m + 1) < g i then g i - 1 else g i) = (if g (m + 1) < g j then g j - 1 else g j) := h3
      split at h4 <;> split at h4 <;> omega
def itF (f : Nat → Nat) : Nat → Nat → Nat
  | 0, a => a
  | n + 1, a => itF f n (f a)
theorem itF_add (f : Nat → Nat) : ∀ i n a, itF f (i + n) a = itF f n (itF f i a)
  | 0, n, a => by rw [Nat.zero_add]; rfl
  | i + 1, n, a => by
    rw [show i + 1 + n = (i + n) + 1 by omega]
    show itF f (i + n) (f a) = itF f n (itF f i (f a))
    exact itF_add f i n (f a)
theorem itF_lt {f : Nat → Nat} {P : Nat} (hf : ∀ a, a < P → f a < P) : ∀ n a, a < P → itF f n a < P
  | 0, _, h => h
  | n + 1, a, h => itF_lt hf n (f a) (hf a h)
/-- what is come to at all is come to within as many steps as there are places, less one -/
theorem itF_soon {f : Nat → Nat} {P a c : Nat} (hf : ∀ a, a < P → f a < P) (ha : a < P) : ∀ n, itF f n a = c → ∃ i, i < P ∧ itF f i a = c := by
  intro n
  induction n using Nat.strongRecOn with
  | ind n ih =>
    intro hn
    by_cases hlt : n < P
    · exact ⟨n, hlt, hn⟩
    · obtain ⟨i, j, h1, h2, h3⟩ := php P (fun i => itF f i a) (fun i _ => itF_lt hf i a ha)
      have h4 : itF f i a = itF f j a := h3
      refine ih (i + (n - j)) (by omega) ?_
      rw [itF_add, h4, ← itF_add, show j + (n - j) = n by omega]
      exact hn
theorem comeN_self (R : DR) (c q : Nat) : ∀ n, comeN R c q n c = true
  | 0 => by rw [comeN]; exact decide_eq_true rfl
  | n + 1 => by rw [comeN, if_pos rfl]
theorem comeN_step {R : DR} {c q n a : Nat} (h : a ≠ c) : comeN R c q (n + 1) a = comeN R c q n (if a = q then a else behN R 1 a) := by rw [comeN, if_neg h]
theorem comeN_iff {R : DR} (hD : Dat R) {c : Nat} : ∀ n a, a < R 0 0 → (comeN R c 9 n a = true ↔ ∃ i, i ≤ n ∧ itF (behN R 1) i a = c)
  | 0, a, _ => by
    rw [comeN, decide_eq_true_iff]
    exact ⟨fun h => ⟨0, Nat.le_refl _, h⟩, fun ⟨i, hi, h⟩ => by rw [show i = 0 by omega] at h; exact h⟩
  | n + 1, a, ha => by
    have h6 := hD.1
    by_cases hc : a = c
    · rw [comeN, if_pos hc]
      exact ⟨fun _ => ⟨0, Nat.zero_le _, hc⟩, fun _ => rfl⟩
    · rw [comeN_step hc, if_neg (show ¬ a = 9 by omega), comeN_iff hD n _ (behN_lt hD ha)]
      constructor
      · rintro ⟨i, hi, h⟩
        exact ⟨i + 1, by omega, h⟩
      · rintro ⟨i, hi, h⟩
        match i, hi, h with
        | 0, _, h => exact absurd h hc
        | i + 1, hi, h => exact ⟨i, by omega, h⟩
theorem comeN_P {R : DR} (hD : Dat R) {c a : Nat} (ha : a < R 0 0) : comeN R c 9 (R 0 0) a = comeN R c 9 6 a := by
  have h6 := hD.1
  rw [Bool.eq_iff_iff, comeN_iff hD _ _ ha, comeN_iff hD _ _ ha]
  constructor
  · rintro ⟨i, hi, h⟩
    exact ⟨i, by omega, h⟩
  · rintro ⟨i, hi, h⟩
    obtain ⟨j, hj, h⟩ := itF_soon (fun a ha => behN_lt hD ha) ha i h
    exact ⟨j, by omega, h⟩
def onN (R : DR) (c : Nat) : Nat → Nat → Nat → Bool
  | 0, _, _ => false
  | n + 1, a, k => if a = c then false else decide (a = k) || onN R c n (behN R 1 a) k
theorem onN_self (R : DR) (c k : Nat) : ∀ n, onN R c n c k = false
  | 0 => rfl
  | n + 1 => by rw [onN, if_pos rfl]
theorem comeN_stuck {R : DR} {c k : Nat} (h : k ≠ c) : ∀ n, comeN R c k n k = false
  | 0 => by rw [comeN]; exact decide_eq_false h
  | n + 1 => by rw [comeN_step h, if_pos rfl]; exact comeN_stuck h n
theorem comeN_on {R : DR} (hD : Dat R) {c k : Nat} : ∀ n a, a < R 0 0 → comeN R c 9 n a = true → comeN R c k n a = !onN R c n a k
  | 0, a, _, h => by
    rw [comeN] at h ⊢
    rw [h]
    rfl
  | n + 1, a, ha, h => by
    have h6 := hD.1
    by_cases hc : a = c
    · rw [hc, comeN_self, onN_self]; rfl
    · rw [comeN_step hc, if_neg (show ¬ a = 9 by omega)] at h
      have ih := comeN_on hD (k := k) n _ (behN_lt hD ha) h
      rw [comeN_step hc, onN, if_neg hc]
      by_cases hk : a = k
      · rw [if_pos hk, decide_eq_true hk, Bool.true_or, hk, comeN_stuck (fun q => hc (hk.trans q))]; rfl
      · rw [if_neg hk, decide_eq_false hk, Bool.false_or, ih]
theorem onN_more {R : DR} (hD : Dat R) {c k : Nat} (i : Nat) : ∀ n a, a < R 0 0 → comeN R c 9 n a = true → onN R c (n + i) a k = onN R c n a k
  | 0, a, _, h => by
    rw [comeN] at h
    rw [of_decide_eq_true h, onN_self, onN_self]
  | n + 1, a, ha, h => by
    have h6 := hD.1
    by_cases hc : a = c
    · rw [hc, onN_self, onN_self]
    · rw [comeN_step hc, if_neg (show ¬ a = 9 by omega)] at h
      rw [show n + 1 + i = (n + i) + 1 by omega, onN, onN, if_neg hc, if_neg hc, onN_more hD i n _ (behN_lt hD ha) h]
theorem leastN_on {R : DR} {c : Nat} : ∀ n a m, leastN R c n a m ≤ m ∧ (∀ k, onN R c n a k = true → leastN R c n a m ≤ k) ∧ (leastN R c n a m = m ∨ onN R c n a (leastN R c n a m) = true)
  | 0, a, m => ⟨Nat.le_refl _, fun k h => absurd (show false = true from h) (by decide), Or.inl rfl⟩
  | n + 1, a, m => by
    by_cases hc : a = c
    · have e : leastN R c (n + 1) a m = m := by rw [leastN, if_pos hc]
      rw [e]
      exact ⟨Nat.le_refl _, fun k h => (by rw [onN, if_pos hc] at h; cases h), Or.inl rfl⟩
    · have e : leastN R c (n + 1) a m = leastN R c n (behN R 1 a) (if a < m then a else m) := by rw [leastN, if_neg hc]
      have eo : ∀ k, onN R c (n + 1) a k = (decide (a = k) || onN R c n (behN R 1 a) k) := fun k => by rw [onN, if_neg hc]
      obtain ⟨i1, i2, i3⟩ := leastN_on n (behN R 1 a) (if a < m then a else m)
      rw [e]
      generalize leastN R c n (behN R 1 a) (if a < m then a else m) = z at i1 i2 i3
      refine ⟨by split at i1 <;> omega, fun k h => ?_, ?_⟩
      · rw [eo, Bool.or_eq_true, decide_eq_true_iff] at h
        rcases h with h | h
        · split at i1 <;> omega
        · exact i2 k h
      · rcases i3 with h | h
        · by_cases hm : a < m
          · rw [if_pos hm] at h
            right
            rw [eo, h, decide_eq_true rfl, Bool.true_or]
          · rw [if_neg hm] at h
            exact Or.inl h
        · right
          rw [eo, h, Bool.or_true]
theorem least_on {R : DR} (hD : Dat R) {c a : Nat} (ha : a < R 0 0) (hac : a ≠ c) (h : comeN R c 9 6 a = true) : leastN R c 6 a 6 < R 0 0 ∧ ∀ k, (∀ i, i < k → comeN R c i (R 0 0) a = true) → (comeN R c k (R 0 0) a = false ↔ k = leastN R c 6 a 6) := by
  have h6 := hD.1
  have hP := comeN_P hD (c := c) ha
  rw [h] at hP
  obtain ⟨l1, l2, l3⟩ := leastN_on (R := R) (c := c) 6 a 6
  have ho : ∀ k, onN R c 6 a k = onN R c (R 0 0) a k := fun k => by
    have := onN_more hD (c := c) (k := k) (6 - R 0 0) (R 0 0) a ha hP
    rw [show R 0 0 + (6 - R 0 0) = 6 by omega] at this
    exact this
  have hco : ∀ k, comeN R c k (R 0 0) a = !onN R c 6 a k := fun k => by rw [ho, comeN_on hD _ _ ha hP]
  have la : leastN R c 6 a 6 ≤ a := l2 a (by rw [onN, if_neg hac, decide_eq_true rfl, Bool.true_or])
  have l4 := l3.resolve_left (by omega)
  refine ⟨by omega, fun k hk => ⟨fun h1 => ?_, fun h1 => ?_⟩⟩
  · rw [hco] at h1
    have h2 : onN R c 6 a k = true := by simpa using h1
    have h3 := l2 k h2
    by_cases he : k = leastN R c 6 a 6
    · exact he
    · have := hk _ (show leastN R c 6 a 6 < k by omega)
      rw [hco, l4] at this
      cases this
  · rw [hco, h1, l4]; rfl
theorem hI_eq {a q : Nat} (ha : a < 6) (hq : q < 6 ∨ q = 9) : nI a = hI q ↔ a = q := by
  rcases hq with hq | hq
  · rw [hI_lt hq]
    exact ⟨fun h => by have h1 := congrArg Int32.toInt h; rw [nI_toInt (by omega), nI_toInt (by omega)] at h1; omega, fun h => by rw [h]⟩
  · rw [hq, hI_9]
    exact ⟨fun h => by have h1 := congrArg Int32.toInt h; rw [nI_toInt (by omega), show ((-9 : Int32)).toInt = -9 from rfl] at h1; omega, fun h => by omega⟩
def stiS (R : DR) (a c x : Int32) : Int32 := if inR a (R 0 0) = true ∧ inR c (R 0 0) = true ∧ a ≠ c ∧ inR x 2 = true then (if x = 0 then bI (comeN R (cl c) 9 6 (cl a)) else if comeN R (cl c) 9 6 (cl a) = true then nI (leastN R (cl c) 6 (cl a) 6) else -9) else -1
section STI
variable {b s : Nat} {sc : pw_E} {mem : pw_M} {R : DR} {e : Nat}
set_option maxHeartbeats 4000000 in
theorem x_dropsAsFarAs (hS : St b s sc mem) (he : e = 49 ∨ e = 72) (hX : XD mem e R) (hD : Dat R) {a c q : Nat} (ha : a < R 0 0) (hc : c < R 0 0) (hq : q < 6 ∨ q = 9) : Rf 1 mX2_dropsAsFarAs [.ref e, .int (nI a), .int (nI c), .int (hI q)] mem (some (.int (bI (comeN R c q (R 0 0) a)))) mem := by
  have h6 := hD.1
  refine Ret.of (by decide) (Nat.le_of_ble_eq_true rfl) fun l G => ?_
  show PW _ _ _ _ [(0, _), (1, _), (2, _), (3, _)] _ _ _
  refine PW.iload_n rfl rfl dX2_dropsAsFarAs_0 ?_
  refine PW.istore (by decide) dX2_dropsAsFarAs_1 (?_ : PW _ _ _ _ [(0, _), (1, _), (2, _), (3, _), (4, _)] _ _ _)
  refine PW.iconst (v := nI 0) (by decide) dX2_dropsAsFarAs_3 ?_
  refine PW.istore (by decide) dX2_dropsAsFarAs_4 (?_ : PW _ _ _ _ [(0, _), (1, _), (2, _), (3, _), (4, _), (5, _)] _ _ _)
  skip
  refine PW.loop (σ := Nat) (I := fun j x => x < R 0 0 ∧ comeN R c q (R 0 0) a = comeN R c q (R 0 0 - j) x) (fun j x => [(0, .ref e), (1, .int (nI a)), (2, .int (nI c)), (3, .int (hI q)), (4, .int (nI x)), (5, .int (nI j))]) (fun _ _ => mem) (R 0 0) (fun j x hj hI ih => ?_) (fun x hI => ?_) a ⟨ha, by rw [Nat.sub_zero]⟩
  · obtain ⟨hx, hcm⟩ := hI
    have hxq := hI_eq (a := x) (q := q) (by omega) hq
    have hst : x ≠ c → comeN R c q (R 0 0) a = comeN R c q (R 0 0 - (j + 1)) (if x = q then x else behN R 1 x) := fun h => by
      rw [hcm, show R 0 0 - j = (R 0 0 - (j + 1)) + 1 by omega, comeN_step h]
    refine PW.iload rfl dX2_dropsAsFarAs_6 ?_
    refine PW.aload_n rfl rfl dX2_dropsAsFarAs_8 ?_
    refine PW.gI hS.1 (by have := he; omega) (skR0 he) (hX.1) fX2_62 dX2_dropsAsFarAs_9 ?_
    refine PW.icmp_geN 47 (by decide) (by first | omega | (split <;> omega)) (by first | omega | (split <;> omega)) dX2_dropsAsFarAs_12 (fun hc12 => by exfalso; omega) (fun hc12 => ?_)
    refine PW.iload rfl dX2_dropsAsFarAs_15 ?_
    refine PW.iload_n rfl rfl dX2_dropsAsFarAs_17 ?_
    refine PW.icmp_eqN 47 (by decide) (by first | omega | (split <;> omega)) (by first | omega | (split <;> omega)) dX2_dropsAsFarAs_18 (fun hc18 => ?_) (fun hc18 => ?_)
    · refine PW.iload rfl dX2_dropsAsFarAs_47 ?_
      refine PW.iload_n rfl rfl dX2_dropsAsFarAs_49 ?_
      refine PW.icmp_neN 57 (by decide) (by first | omega | (split <;> omega)) (by first | omega | (split <;> omega)) dX2_dropsAsFarAs_50 (fun hc50 => by exfalso; omega) (fun hc50 => ?_)
      refine PW.iconst (v := nI 1) (by decide) dX2_dropsAsFarAs_53 ?_
      refine PW.goto 58 (by decide) dX2_dropsAsFarAs_54 ?_
      refine PW.zret rfl (by first | exact bI_nar _ | rfl) (Nat.le_refl _) (Nat.le_refl _) dX2_dropsAsFarAs_58 ?_
      exact ⟨by rw [hcm, hc18, comeN_self]; rfl, rfl⟩
    · refine PW.iload rfl dX2_dropsAsFarAs_21 ?_
      refine PW.iload_n rfl rfl dX2_dropsAsFarAs_23 ?_
      refine PW.icmp_ne 32 (by decide) dX2_dropsAsFarAs_24 (fun hc24 => ?_) (fun hc24 => ?_)
      · refine PW.aload_n rfl rfl dX2_dropsAsFarAs_32 ?_
        refine PW.iload rfl dX2_dropsAsFarAs_33 ?_
        refine PW.iconst (v := nI 1) (by decide) dX2_dropsAsFarAs_35 ?_
        refine PW.cV (ci := 2) (j := 0) _ hS.1 (by have := he; omega) (skR0 he) kX2_121 (x_behindNight hS he hX hD (u := 1) hx (by decide)) rfl rfl (Nat.le_of_ble_eq_true rfl) rfl ⟨by decide, by decide⟩ ⟨Nat.zero_le _, Nat.zero_le _⟩ dX2_dropsAsFarAs_36 ?_
        refine PW.istore (by decide) dX2_dropsAsFarAs_39 (?_ : PW _ _ _ _ [(0, _), (1, _), (2, _), (3, _), (4, _), (5, _)] _ _ _)
        refine PW.iincN rfl (by decide) dX2_dropsAsFarAs_41 (?_ : PW _ _ _ _ [(0, _), (1, _), (2, _), (3, _), (4, _), (5, _)] _ _ _)
        refine PW.goto 6 (by decide) dX2_dropsAsFarAs_44 ?_
        first | exact ih _ ⟨hx, by rw [hst hc18, if_pos (hxq.mp hc24)]⟩ | exact ih _ ⟨behN_lt hD hx, by rw [hst hc18, if_neg (fun h => hc24 (hxq.mpr h))]⟩
      · refine PW.iload rfl dX2_dropsAsFarAs_27 ?_
        refine PW.goto 39 (by decide) dX2_dropsAsFarAs_29 ?_
        refine PW.istore (by decide) dX2_dropsAsFarAs_39 (?_ : PW _ _ _ _ [(0, _), (1, _), (2, _), (3, _), (4, _), (5, _)] _ _ _)
        refine PW.iincN rfl (by decide) dX2_dropsAsFarAs_41 (?_ : PW _ _ _ _ [(0, _), (1, _), (2, _), (3, _), (4, _), (5, _)] _ _ _)
        refine PW.goto 6 (by decide) dX2_dropsAsFarAs_44 ?_
        first | exact ih _ ⟨hx, by rw [hst hc18, if_pos (hxq.mp hc24)]⟩ | exact ih _ ⟨behN_lt hD hx, by rw [hst hc18, if_neg (fun h => hc24 (hxq.mpr h))]⟩
  · obtain ⟨hx, hcm⟩ := hI
    rw [Nat.sub_self, comeN] at hcm
    rw [hcm]
    refine PW.iload rfl dX2_dropsAsFarAs_6 ?_
    refine PW.aload_n rfl rfl dX2_dropsAsFarAs_8 ?_
    refine PW.gI hS.1 (by have := he; omega) (skR0 he) (hX.1) fX2_62 dX2_dropsAsFarAs_9 ?_
    refine PW.icmp_geN 47 (by decide) (by first | omega | (split <;> omega)) (by first | omega | (split <;> omega)) dX2_dropsAsFarAs_12 (fun hc12 => ?_) (fun hc12 => by exfalso; omega)
    refine PW.iload rfl dX2_dropsAsFarAs_47 ?_
    refine PW.iload_n rfl rfl dX2_dropsAsFarAs_49 ?_
    refine PW.icmp_neN 57 (by decide) (by first | omega | (split <;> omega)) (by first | omega | (split <;> omega)) dX2_dropsAsFarAs_50 (fun hc50 => ?_) (fun hc50 => ?_)
    · refine PW.iconst (v := nI 0) (by decide) dX2_dropsAsFarAs_57 ?_
      refine PW.zret rfl (by first | exact bI_nar _ | rfl) (Nat.le_refl _) (Nat.le_refl _) dX2_dropsAsFarAs_58 ?_
      first | exact ⟨by rw [decide_eq_true hc50]; rfl, rfl⟩ | exact ⟨by rw [decide_eq_false hc50]; rfl, rfl⟩
    · refine PW.iconst (v := nI 1) (by decide) dX2_dropsAsFarAs_53 ?_
      refine PW.goto 58 (by decide) dX2_dropsAsFarAs_54 ?_
      refine PW.zret rfl (by first | exact bI_nar _ | rfl) (Nat.le_refl _) (Nat.le_refl _) dX2_dropsAsFarAs_58 ?_
      first | exact ⟨by rw [decide_eq_true hc50]; rfl, rfl⟩ | exact ⟨by rw [decide_eq_false hc50]; rfl, rfl⟩
set_option maxHeartbeats 4000000 in
theorem x_firstStitch (hS : St b s sc mem) (he : e = 49 ∨ e = 72) (hX : XD mem e R) (hD : Dat R) {a c : Nat} (ha : a < R 0 0) (hc : c < R 0 0) (hac : a ≠ c) (hcm : comeN R c 9 6 a = true) : Rf 2 mX2_firstStitch [.ref e, .int (nI a), .int (nI c)] mem (some (.int (nI (leastN R c 6 a 6)))) mem := by
  have h6 := hD.1
  obtain ⟨hl, hle⟩ := least_on hD ha hac hcm
  refine Ret.of (by decide) (Nat.le_of_ble_eq_true rfl) fun l G => ?_
  show PW _ _ _ _ [(0, _), (1, _), (2, _)] _ _ _
  refine PW.iconst (v := nI 0) (by decide) dX2_firstStitch_0 ?_
  refine PW.istore_n rfl (by decide) dX2_firstStitch_1 (?_ : PW _ _ _ _ [(0, _), (1, _), (2, _), (3, _)] _ _ _)
  skip
  refine PW.loop (σ := Unit) (I := fun j _ => ∀ i, i < j → comeN R c i (R 0 0) a = true) (fun j _ => [(0, .ref e), (1, .int (nI a)), (2, .int (nI c)), (3, .int (nI j))]) (fun _ _ => mem) (R 0 0) (fun j _ hj hI ih => ?_) (fun _ hI => ?_) () (fun i hi => absurd hi (Nat.not_lt_zero _))
  · have hdr := x_dropsAsFarAs hS he hX hD (q := j) ha hc (Or.inl (by omega))
    rw [hI_lt (show j < 6 by omega)] at hdr
    refine PW.iload_n rfl rfl dX2_firstStitch_2 ?_
    refine PW.aload_n rfl rfl dX2_firstStitch_3 ?_
    refine PW.gI hS.1 (by have := he; omega) (skR0 he) (hX.1) fX2_62 dX2_firstStitch_4 ?_
    refine PW.icmp_geN 28 (by decide) (by first | omega | (split <;> omega)) (by first | omega | (split <;> omega)) dX2_firstStitch_7 (fun hc7 => by exfalso; omega) (fun hc7 => ?_)
    refine PW.aload_n rfl rfl dX2_firstStitch_10 ?_
    refine PW.iload_n rfl rfl dX2_firstStitch_11 ?_
    refine PW.iload_n rfl rfl dX2_firstStitch_12 ?_
    refine PW.iload_n rfl rfl dX2_firstStitch_13 ?_
    refine PW.cV (ci := 2) (j := 0) _ hS.1 (by have := he; omega) (skR0 he) kX2_125 (hdr) rfl rfl (Nat.le_of_ble_eq_true rfl) rfl ⟨by decide, by decide⟩ ⟨Nat.zero_le _, Nat.zero_le _⟩ dX2_firstStitch_14 ?_
    refine PW.if_neB 22 (by decide) dX2_firstStitch_17 (fun hc17 => ?_) (fun hc17 => ?_)
    · refine PW.iincN rfl (by decide) dX2_firstStitch_22 (?_ : PW _ _ _ _ [(0, _), (1, _), (2, _), (3, _)] _ _ _)
      refine PW.goto 2 (by decide) dX2_firstStitch_25 ?_
      exact ih () (fun i hi => by by_cases h : i = j; (rw [h]; exact hc17); exact hI i (by omega))
    · refine PW.iload_n rfl rfl dX2_firstStitch_20 ?_
      refine PW.iret rfl (Nat.le_refl _) (Nat.le_refl _) dX2_firstStitch_21 ?_
      exact ⟨by rw [(hle j hI).mp hc17], rfl⟩
  · exfalso
    have := (hle _ (fun i hi => hI i (by omega))).mpr rfl
    rw [hI _ hl] at this
    cases this
set_option maxHeartbeats 4000000 in
theorem x_stitches (hS : St b s sc mem) (hX : XD mem b R) (hD : Dat R) (a c x : Int32) : Rf 3 mX5_stitches [.ref 9, .int a, .int c, .int x] mem (some (.int (stiS R a c x))) mem := by
  have h6 := hD.1
  by_cases hg : inR a (R 0 0) = true ∧ inR c (R 0 0) = true ∧ a ≠ c ∧ inR x 2 = true
  · rw [stiS, if_pos hg]
    obtain ⟨g1, g2, g3, g4⟩ := hg
    obtain ⟨a, ha, rfl⟩ := inR_of g1
    obtain ⟨c, hc, rfl⟩ := inR_of g2
    obtain ⟨x, hx, rfl⟩ := inR_of g4
    rw [cl_nI (by omega), cl_nI (by omega)]
    have hac : a ≠ c := fun h => g3 (by rw [h])
    have hdr := x_dropsAsFarAs hS hS.b hX hD (q := 9) ha hc (Or.inr rfl)
    rw [hI_9, comeN_P hD ha] at hdr
    refine Ret.of (by decide) (Nat.le_of_ble_eq_true rfl) fun l G => ?_
    show PW _ _ _ _ [(0, _), (1, _), (2, _), (3, _)] _ _ _
    refine PW.aload_n rfl rfl dX5_stitches_0 ?_
    refine PW.iload_n rfl rfl dX5_stitches_1 ?_
    refine PW.cV (ci := 5) (j := 0) _ hS.1 (by decide) rfl kX5_93 (x_isPocket hS hX hD _) rfl rfl (Nat.le_of_ble_eq_true rfl) rfl ⟨by decide, by decide⟩ ⟨Nat.zero_le _, Nat.zero_le _⟩ dX5_stitches_2 ?_
    refine PW.if_eqB 30 (by decide) dX5_stitches_5 (fun hc5 => by (first | (rw [g1] at hc5; cases hc5) | (rw [g2] at hc5; cases hc5) | (rw [g4] at hc5; cases hc5) | exact absurd hc5 g3)) (fun hc5 => ?_)
    refine PW.aload_n rfl rfl dX5_stitches_8 ?_
    refine PW.iload_n rfl rfl dX5_stitches_9 ?_
    refine PW.cV (ci := 5) (j := 0) _ hS.1 (by decide) rfl kX5_93 (x_isPocket hS hX hD _) rfl rfl (Nat.le_of_ble_eq_true rfl) rfl ⟨by decide, by decide⟩ ⟨Nat.zero_le _, Nat.zero_le _⟩ dX5_stitches_10 ?_
    refine PW.if_eqB 30 (by decide) dX5_stitches_13 (fun hc13 => by (first | (rw [g1] at hc13; cases hc13) | (rw [g2] at hc13; cases hc13) | (rw [g4] at hc13; cases hc13) | exact absurd hc13 g3)) (fun hc13 => ?_)
    refine PW.iload_n rfl rfl dX5_stitches_16 ?_
    refine PW.iload_n rfl rfl dX5_stitches_17 ?_
    refine PW.icmp_eq 30 (by decide) dX5_stitches_18 (fun hc18 => by (first | (rw [g1] at hc18; cases hc18) | (rw [g2] at hc18; cases hc18) | (rw [g4] at hc18; cases hc18) | exact absurd hc18 g3)) (fun hc18 => ?_)
    refine PW.iload_n rfl rfl dX5_stitches_21 ?_
    refine PW.iconst (v := nI 0) (by decide) dX5_stitches_22 ?_
    refine PW.iconst (v := nI 1) (by decide) dX5_stitches_23 ?_
    refine PW.cS _ kX5_71 (x_inR (nI x) (h := 1) (by decide) mem) rfl rfl (Nat.le_of_ble_eq_true rfl) ⟨by decide, by decide⟩ ⟨Nat.zero_le _, Nat.zero_le _⟩ dX5_stitches_24 ?_
    refine PW.if_neB 32 (by decide) dX5_stitches_27 (fun hc27 => ?_) (fun hc27 => by (first | (rw [g1] at hc27; cases hc27) | (rw [g2] at hc27; cases hc27) | (rw [g4] at hc27; cases hc27) | exact absurd hc27 g3))
    refine PW.aload_n rfl rfl dX5_stitches_32 ?_
    refine PW.gV hS.1 (by decide) rfl hS.2.1 fX5_58 dX5_stitches_33 ?_
    refine PW.iload_n rfl rfl dX5_stitches_36 ?_
    refine PW.iload_n rfl rfl dX5_stitches_37 ?_
    refine PW.bipush (v := -9) (by decide) dX5_stitches_38 ?_
    refine PW.cV (ci := 2) (j := 0) _ hS.1 (by have := hS.b; omega) (skR0 hS.b) kX5_216 (hdr) rfl rfl (Nat.le_of_ble_eq_true rfl) rfl ⟨by decide, by decide⟩ ⟨Nat.zero_le _, Nat.zero_le _⟩ dX5_stitches_40 ?_
    refine PW.istore (by decide) dX5_stitches_43 (?_ : PW _ _ _ _ [(0, _), (1, _), (2, _), (3, _), (4, _)] _ _ _)
    refine PW.iload_n rfl rfl dX5_stitches_45 ?_
    refine PW.if_ne 60 (by decide) dX5_stitches_46 (fun hc46 => ?_) (fun hc46 => ?_)
    · refine PW.iload rfl dX5_stitches_60 ?_
      refine PW.if_eqB 77 (by decide) dX5_stitches_62 (fun hc62 => ?_) (fun hc62 => ?_)
      · refine PW.bipush (v := -9) (by decide) dX5_stitches_77 ?_
        refine PW.iret rfl (Nat.le_refl _) (Nat.le_refl _) dX5_stitches_79 ?_
        first | exact ⟨by rw [if_pos hc46, hc51]; rfl, rfl⟩ | exact ⟨by rw [if_neg hc46, if_pos hc62], rfl⟩ | exact ⟨by rw [if_neg hc46, hc62]; rfl, rfl⟩
      · refine PW.aload_n rfl rfl dX5_stitches_65 ?_
        refine PW.gV hS.1 (by decide) rfl hS.2.1 fX5_58 dX5_stitches_66 ?_
        refine PW.iload_n rfl rfl dX5_stitches_69 ?_
        refine PW.iload_n rfl rfl dX5_stitches_70 ?_
        refine PW.cV (ci := 2) (j := 0) _ hS.1 (by have := hS.b; omega) (skR0 hS.b) kX5_219 (x_firstStitch hS hS.b hX hD ha hc hac hc62) rfl rfl (Nat.le_of_ble_eq_true rfl) rfl ⟨by decide, by decide⟩ ⟨Nat.zero_le _, Nat.zero_le _⟩ dX5_stitches_71 ?_
        refine PW.goto 79 (by decide) dX5_stitches_74 ?_
        refine PW.iret rfl (Nat.le_refl _) (Nat.le_refl _) dX5_stitches_79 ?_
        first | exact ⟨by rw [if_pos hc46, hc51]; rfl, rfl⟩ | exact ⟨by rw [if_neg hc46, if_pos hc62], rfl⟩ | exact ⟨by rw [if_neg hc46, hc62]; rfl, rfl⟩
    · refine PW.iload rfl dX5_stitches_49 ?_
      refine PW.if_eqB 58 (by decide) dX5_stitches_51 (fun hc51 => ?_) (fun hc51 => ?_)
      · refine PW.iconst (v := nI 0) (by decide) dX5_stitches_58 ?_
        refine PW.iret rfl (Nat.le_refl _) (Nat.le_refl _) dX5_stitches_59 ?_
        first | exact ⟨by rw [if_pos hc46, hc51]; rfl, rfl⟩ | exact ⟨by rw [if_neg hc46, if_pos hc62], rfl⟩ | exact ⟨by rw [if_neg hc46, hc62]; rfl, rfl⟩
      · refine PW.iconst (v := nI 1) (by decide) dX5_stitches_54 ?_
        refine PW.goto 59 (by decide) dX5_stitches_55 ?_
        refine PW.iret rfl (Nat.le_refl _) (Nat.le_refl _) dX5_stitches_59 ?_
        first | exact ⟨by rw [if_pos hc46, hc51]; rfl, rfl⟩ | exact ⟨by rw [if_neg hc46, if_pos hc62], rfl⟩ | exact ⟨by rw [if_neg hc46, hc62]; rfl, rfl⟩
  · rw [stiS, if_neg hg]
    refine Ret.of (by decide) (Nat.le_of_ble_eq_true rfl) fun l G => ?_
    show PW _ _ _ _ [(0, _), (1, _), (2, _), (3, _)] _ _ _
    refine PW.aload_n rfl rfl dX5_stitches_0 ?_
    refine PW.iload_n rfl rfl dX5_stitches_1 ?_
    refine PW.cV (ci := 5) (j := 0) _ hS.1 (by decide) rfl kX5_93 (x_isPocket hS hX hD _) rfl rfl (Nat.le_of_ble_eq_true rfl) rfl ⟨by decide, by decide⟩ ⟨Nat.zero_le _, Nat.zero_le _⟩ dX5_stitches_2 ?_
    refine PW.if_eqB 30 (by decide) dX5_stitches_5 (fun hc5 => ?_) (fun hc5 => ?_)
    · refine PW.iconst (v := -1) (by decide) dX5_stitches_30 ?_
      refine PW.iret rfl (Nat.le_refl _) (Nat.le_refl _) dX5_stitches_31 ?_
      exact ⟨rfl, rfl⟩
    · refine PW.aload_n rfl rfl dX5_stitches_8 ?_
      refine PW.iload_n rfl rfl dX5_stitches_9 ?_
      refine PW.cV (ci := 5) (j := 0) _ hS.1 (by decide) rfl kX5_93 (x_isPocket hS hX hD _) rfl rfl (Nat.le_of_ble_eq_true rfl) rfl ⟨by decide, by decide⟩ ⟨Nat.zero_le _, Nat.zero_le _⟩ dX5_stitches_10 ?_
      refine PW.if_eqB 30 (by decide) dX5_stitches_13 (fun hc13 => ?_) (fun hc13 => ?_)
      · refine PW.iconst (v := -1) (by decide) dX5_stitches_30 ?_
        refine PW.iret rfl (Nat.le_refl _) (Nat.le_refl _) dX5_stitches_31 ?_
        exact ⟨rfl, rfl⟩
      · refine PW.iload_n rfl rfl dX5_stitches_16 ?_
        refine PW.iload_n rfl rfl dX5_stitches_17 ?_
        refine PW.icmp_eq 30 (by decide) dX5_stitches_18 (fun hc18 => ?_) (fun hc18 => ?_)
        · refine PW.iconst (v := -1) (by decide) dX5_stitches_30 ?_
          refine PW.iret rfl (Nat.le_refl _) (Nat.le_refl _) dX5_stitches_31 ?_
          exact ⟨rfl, rfl⟩
        · refine PW.iload_n rfl rfl dX5_stitches_21 ?_
          refine PW.iconst (v := nI 0) (by decide) dX5_stitches_22 ?_
          refine PW.iconst (v := nI 1) (by decide) dX5_stitches_23 ?_
          refine PW.cS _ kX5_71 (x_inR x (h := 1) (by decide) mem) rfl rfl (Nat.le_of_ble_eq_true rfl) ⟨by decide, by decide⟩ ⟨Nat.zero_le _, Nat.zero_le _⟩ dX5_stitches_24 ?_
          refine PW.if_neB 32 (by decide) dX5_stitches_27 (fun hc27 => by exact absurd ⟨hc5, hc13, hc18, hc27⟩ hg) (fun hc27 => ?_)
          refine PW.iconst (v := -1) (by decide) dX5_stitches_30 ?_
          refine PW.iret rfl (Nat.le_refl _) (Nat.le_refl _) dX5_stitches_31 ?_
          exact ⟨rfl, rfl⟩
set_option maxHeartbeats 4000000 in
theorem m_stitches (hS : St b s sc mem) (hM : MD mem R) (hD : Dat R) (a c x : Int32) : Rf 2 mX6_stitches [.ref 95, .int a, .int c, .int x] mem (some (.int (stiS R a c x))) mem := by
  have h6 := hD.1
  by_cases hg : inR a (R 0 0) = true ∧ inR c (R 0 0) = true ∧ a ≠ c ∧ inR x 2 = true
  · rw [stiS, if_pos hg]
    obtain ⟨g1, g2, g3, g4⟩ := hg
    obtain ⟨a, ha, rfl⟩ := inR_of g1
    obtain ⟨c, hc, rfl⟩ := inR_of g2
    obtain ⟨x, hx, rfl⟩ := inR_of g4
    rw [cl_nI (by omega), cl_nI (by omega)]
    refine Ret.of (by decide) (Nat.le_of_ble_eq_true rfl) fun l G => ?_
    show PW _ _ _ _ [(0, _), (1, _), (2, _), (3, _)] _ _ _
    refine PW.aload_n rfl rfl dX6_stitches_0 ?_
    refine PW.iload_n rfl rfl dX6_stitches_1 ?_
    refine PW.cV (ci := 6) (j := 0) _ hS.1 (by decide) rfl kX6_178 (m_isPocket hS hM hD _) rfl rfl (Nat.le_of_ble_eq_true rfl) rfl ⟨by decide, by decide⟩ ⟨Nat.zero_le _, Nat.zero_le _⟩ dX6_stitches_2 ?_
    refine PW.if_eqB 31 (by decide) dX6_stitches_5 (fun hc5 => by (first | (rw [g1] at hc5; cases hc5) | (rw [g2] at hc5; cases hc5) | (rw [g4] at hc5; cases hc5) | exact absurd hc5 g3)) (fun hc5 => ?_)
    refine PW.aload_n rfl rfl dX6_stitches_8 ?_
    refine PW.iload_n rfl rfl dX6_stitches_9 ?_
    refine PW.cV (ci := 6) (j := 0) _ hS.1 (by decide) rfl kX6_178 (m_isPocket hS hM hD _) rfl rfl (Nat.le_of_ble_eq_true rfl) rfl ⟨by decide, by decide⟩ ⟨Nat.zero_le _, Nat.zero_le _⟩ dX6_stitches_10 ?_
    refine PW.if_eqB 31 (by decide) dX6_stitches_13 (fun hc13 => by (first | (rw [g1] at hc13; cases hc13) | (rw [g2] at hc13; cases hc13) | (rw [g4] at hc13; cases hc13) | exact absurd hc13 g3)) (fun hc13 => ?_)
    refine PW.iload_n rfl rfl dX6_stitches_16 ?_
    refine PW.iload_n rfl rfl dX6_stitches_17 ?_
    refine PW.icmp_eq 31 (by decide) dX6_stitches_18 (fun hc18 => by (first | (rw [g1] at hc18; cases hc18) | (rw [g2] at hc18; cases hc18) | (rw [g4] at hc18; cases hc18) | exact absurd hc18 g3)) (fun hc18 => ?_)
    refine PW.iload_n rfl rfl dX6_stitches_21 ?_
    refine PW.i2l dX6_stitches_22 ?_
    refine PW.lconst (v := 0) (by decide) dX6_stitches_23 ?_
    refine PW.lconst (v := 1) (by decide) dX6_stitches_24 ?_
    refine PW.cS _ kX6_82 (m_inR (nI x) (h := 1) (n := 2) rfl mem) rfl rfl (Nat.le_of_ble_eq_true rfl) ⟨by decide, by decide⟩ ⟨Nat.zero_le _, Nat.zero_le _⟩ dX6_stitches_25 ?_
    refine PW.if_neB 33 (by decide) dX6_stitches_28 (fun hc28 => ?_) (fun hc28 => by (first | (rw [g1] at hc28; cases hc28) | (rw [g2] at hc28; cases hc28) | (rw [g4] at hc28; cases hc28) | exact absurd hc28 g3))
    refine PW.bipush (v := nI 6) (by decide) dX6_stitches_33 ?_
    refine PW.istore (by decide) dX6_stitches_35 (?_ : PW _ _ _ _ [(0, _), (1, _), (2, _), (3, _), (4, _)] _ _ _)
    refine PW.iload_n rfl rfl dX6_stitches_37 ?_
    refine PW.istore (by decide) dX6_stitches_38 (?_ : PW _ _ _ _ [(0, _), (1, _), (2, _), (3, _), (4, _), (5, _)] _ _ _)
    refine PW.iconst (v := nI 0) (by decide) dX6_stitches_40 ?_
    refine PW.istore (by decide) dX6_stitches_41 (?_ : PW _ _ _ _ [(0, _), (1, _), (2, _), (3, _), (4, _), (5, _), (6, _)] _ _ _)
    skip
    have tail : ∀ cm : Bool, ∀ lm y z : Nat, comeN R c 9 6 a = cm → (cm = true → leastN R c 6 a 6 = lm) → (cm = decide (y = c)) → y < 6 → PW (l, G, mX6_stitches, pw_rm 2 0 0, 0, 0) 0 0 87 [(0, .ref 95), (1, .int (nI a)), (2, .int (nI c)), (3, .int (nI x)), (4, .int (nI lm)), (5, .int (nI y)), (6, .int (nI z))] [] mem (fun u m1 => u = some (.int (if nI x = 0 then bI (comeN R c 9 6 a) else if comeN R c 9 6 a = true then nI (leastN R c 6 a 6) else -9)) ∧ m1 = mem) := by
      intro cm lm y z h1 h2 h3 hy
      refine PW.iload rfl dX6_stitches_87 ?_
      refine PW.iload_n rfl rfl dX6_stitches_89 ?_
      refine PW.icmp_neN 97 (by decide) (by first | omega | (split <;> omega)) (by first | omega | (split <;> omega)) dX6_stitches_90 (fun hc90 => ?_) (fun hc90 => ?_)
      · refine PW.iconst (v := nI 0) (by decide) dX6_stitches_97 ?_
        refine PW.istore (by decide) dX6_stitches_98 (?_ : PW _ _ _ _ [(0, _), (1, _), (2, _), (3, _), (4, _), (5, _), (6, _)] _ _ _)
        refine PW.iload_n rfl rfl dX6_stitches_100 ?_
        refine PW.if_ne 117 (by decide) dX6_stitches_101 (fun hc101 => ?_) (fun hc101 => ?_)
        · refine PW.iload rfl dX6_stitches_117 ?_
          refine PW.if_eqN 127 (by decide) (by decide) dX6_stitches_119 (fun _ => ?_) (fun h => absurd h (by decide))
          refine PW.bipush (v := -9) (by decide) dX6_stitches_127 ?_
          refine PW.iret rfl (Nat.le_refl _) (Nat.le_refl _) dX6_stitches_129 ?_
          first | exact ⟨by rw [if_pos hc101, h1, h3, decide_eq_true hc90]; rfl, rfl⟩ | exact ⟨by rw [if_pos hc101, h1, h3, decide_eq_false hc90]; rfl, rfl⟩ | exact ⟨by rw [if_neg hc101, h1, h3, decide_eq_false hc90]; rfl, rfl⟩ | exact ⟨by rw [if_neg hc101, if_pos (by rw [h1, h3, decide_eq_true hc90]), h2 (by rw [h3, decide_eq_true hc90])], rfl⟩
        · refine PW.iload rfl dX6_stitches_104 ?_
          refine PW.if_eqN 113 (by decide) (by decide) dX6_stitches_106 (fun _ => ?_) (fun h => absurd h (by decide))
          refine PW.iconst (v := nI 0) (by decide) dX6_stitches_113 ?_
          refine PW.goto 129 (by decide) dX6_stitches_114 ?_
          refine PW.iret rfl (Nat.le_refl _) (Nat.le_refl _) dX6_stitches_129 ?_
          first | exact ⟨by rw [if_pos hc101, h1, h3, decide_eq_true hc90]; rfl, rfl⟩ | exact ⟨by rw [if_pos hc101, h1, h3, decide_eq_false hc90]; rfl, rfl⟩ | exact ⟨by rw [if_neg hc101, h1, h3, decide_eq_false hc90]; rfl, rfl⟩ | exact ⟨by rw [if_neg hc101, if_pos (by rw [h1, h3, decide_eq_true hc90]), h2 (by rw [h3, decide_eq_true hc90])], rfl⟩
      · refine PW.iconst (v := nI 1) (by decide) dX6_stitches_93 ?_
        refine PW.goto 98 (by decide) dX6_stitches_94 ?_
        refine PW.istore (by decide) dX6_stitches_98 (?_ : PW _ _ _ _ [(0, _), (1, _), (2, _), (3, _), (4, _), (5, _), (6, _)] _ _ _)
        refine PW.iload_n rfl rfl dX6_stitches_100 ?_
        refine PW.if_ne 117 (by decide) dX6_stitches_101 (fun hc101 => ?_) (fun hc101 => ?_)
        · refine PW.iload rfl dX6_stitches_117 ?_
          refine PW.if_eqN 127 (by decide) (by decide) dX6_stitches_119 (fun h => absurd h (by decide)) (fun _ => ?_)
          refine PW.iload rfl dX6_stitches_122 ?_
          refine PW.goto 129 (by decide) dX6_stitches_124 ?_
          refine PW.iret rfl (Nat.le_refl _) (Nat.le_refl _) dX6_stitches_129 ?_
          first | exact ⟨by rw [if_pos hc101, h1, h3, decide_eq_true hc90]; rfl, rfl⟩ | exact ⟨by rw [if_pos hc101, h1, h3, decide_eq_false hc90]; rfl, rfl⟩ | exact ⟨by rw [if_neg hc101, h1, h3, decide_eq_false hc90]; rfl, rfl⟩ | exact ⟨by rw [if_neg hc101, if_pos (by rw [h1, h3, decide_eq_true hc90]), h2 (by rw [h3, decide_eq_true hc90])], rfl⟩
        · refine PW.iload rfl dX6_stitches_104 ?_
          refine PW.if_eqN 113 (by decide) (by decide) dX6_stitches_106 (fun h => absurd h (by decide)) (fun _ => ?_)
          refine PW.iconst (v := nI 1) (by decide) dX6_stitches_109 ?_
          refine PW.goto 129 (by decide) dX6_stitches_110 ?_
          refine PW.iret rfl (Nat.le_refl _) (Nat.le_refl _) dX6_stitches_129 ?_
          first | exact ⟨by rw [if_pos hc101, h1, h3, decide_eq_true hc90]; rfl, rfl⟩ | exact ⟨by rw [if_pos hc101, h1, h3, decide_eq_false hc90]; rfl, rfl⟩ | exact ⟨by rw [if_neg hc101, h1, h3, decide_eq_false hc90]; rfl, rfl⟩ | exact ⟨by rw [if_neg hc101, if_pos (by rw [h1, h3, decide_eq_true hc90]), h2 (by rw [h3, decide_eq_true hc90])], rfl⟩
    refine PW.loop (σ := Nat × Nat) (I := fun j x => x.1 < R 0 0 ∧ x.2 ≤ 6 ∧ comeN R c 9 6 a = comeN R c 9 (6 - j) x.1 ∧ leastN R c 6 a 6 = leastN R c (6 - j) x.1 x.2) (fun j y => [(0, .ref 95), (1, .int (nI a)), (2, .int (nI c)), (3, .int (nI x)), (4, .int (nI y.2)), (5, .int (nI y.1)), (6, .int (nI j))]) (fun _ _ => mem) 6 (fun j y hj hI ih => ?_) (fun y hI => ?_) (a, 6) ⟨ha, Nat.le_refl _, rfl, rfl⟩
    · obtain ⟨y, lm⟩ := y
      obtain ⟨hy, hlm, hcm, hls⟩ := hI
      simp only at hy hlm hcm hls
      have st1 : y ≠ c → comeN R c 9 6 a = comeN R c 9 (6 - (j + 1)) (behN R 1 y) := fun h => by
        rw [hcm, show 6 - j = (6 - (j + 1)) + 1 by omega, comeN_step h, if_neg (by omega)]
      have st2 : y ≠ c → leastN R c 6 a 6 = leastN R c (6 - (j + 1)) (behN R 1 y) (if y < lm then y else lm) := fun h => by
        rw [hls, show 6 - j = (6 - (j + 1)) + 1 by omega, leastN, if_neg h]
      have hb := behN_lt hD (u := 1) hy
      refine PW.iload rfl dX6_stitches_43 ?_
      refine PW.bipush (v := nI 6) (by decide) dX6_stitches_45 ?_
      refine PW.icmp_geN 87 (by decide) (by first | omega | (split <;> omega)) (by first | omega | (split <;> omega)) dX6_stitches_47 (fun hc47 => by (exfalso; omega)) (fun hc47 => ?_)
      refine PW.iload rfl dX6_stitches_50 ?_
      refine PW.iload_n rfl rfl dX6_stitches_52 ?_
      refine PW.icmp_eqN 87 (by decide) (by first | omega | (split <;> omega)) (by first | omega | (split <;> omega)) dX6_stitches_53 (fun hc53 => ?_) (fun hc53 => ?_)
      · have hc53 : y = c := hc53
        rw [hc53, comeN_self] at hcm
        refine tail true lm y j hcm (fun _ => ?_) (decide_eq_true hc53).symm (by omega)
        rw [hls, show 6 - j = (6 - (j + 1)) + 1 by omega, leastN, if_pos hc53]
      · refine PW.iload rfl dX6_stitches_56 ?_
        refine PW.iload rfl dX6_stitches_58 ?_
        refine PW.icmp_geN 68 (by decide) (by first | omega | (split <;> omega)) (by first | omega | (split <;> omega)) dX6_stitches_60 (fun hc60 => ?_) (fun hc60 => ?_)
        · refine PW.iload rfl dX6_stitches_68 ?_
          refine PW.istore (by decide) dX6_stitches_70 (?_ : PW _ _ _ _ [(0, _), (1, _), (2, _), (3, _), (4, _), (5, _), (6, _)] _ _ _)
          refine PW.aload_n rfl rfl dX6_stitches_72 ?_
          refine PW.iload rfl dX6_stitches_73 ?_
          refine PW.iconst (v := nI 1) (by decide) dX6_stitches_75 ?_
          refine PW.cV (ci := 6) (j := 0) _ hS.1 (by decide) rfl kX6_218 (m_through hS hM hD (u := 1) hy (by decide)) rfl rfl (Nat.le_of_ble_eq_true rfl) rfl ⟨by decide, by decide⟩ ⟨Nat.zero_le _, Nat.zero_le _⟩ dX6_stitches_76 ?_
          refine PW.istore (by decide) dX6_stitches_79 (?_ : PW _ _ _ _ [(0, _), (1, _), (2, _), (3, _), (4, _), (5, _), (6, _)] _ _ _)
          refine PW.iincN rfl (by decide) dX6_stitches_81 (?_ : PW _ _ _ _ [(0, _), (1, _), (2, _), (3, _), (4, _), (5, _), (6, _)] _ _ _)
          refine PW.goto 43 (by decide) dX6_stitches_84 ?_
          first | exact ih (behN R 1 y, lm) ⟨hb, hlm, st1 hc53, by rw [st2 hc53, if_neg (by omega)]⟩ | exact ih (behN R 1 y, y) ⟨hb, by omega, st1 hc53, by rw [st2 hc53, if_pos (by omega)]⟩
        · refine PW.iload rfl dX6_stitches_63 ?_
          refine PW.goto 70 (by decide) dX6_stitches_65 ?_
          refine PW.istore (by decide) dX6_stitches_70 (?_ : PW _ _ _ _ [(0, _), (1, _), (2, _), (3, _), (4, _), (5, _), (6, _)] _ _ _)
          refine PW.aload_n rfl rfl dX6_stitches_72 ?_
          refine PW.iload rfl dX6_stitches_73 ?_
          refine PW.iconst (v := nI 1) (by decide) dX6_stitches_75 ?_
          refine PW.cV (ci := 6) (j := 0) _ hS.1 (by decide) rfl kX6_218 (m_through hS hM hD (u := 1) hy (by decide)) rfl rfl (Nat.le_of_ble_eq_true rfl) rfl ⟨by decide, by decide⟩ ⟨Nat.zero_le _, Nat.zero_le _⟩ dX6_stitches_76 ?_
          refine PW.istore (by decide) dX6_stitches_79 (?_ : PW _ _ _ _ [(0, _), (1, _), (2, _), (3, _), (4, _), (5, _), (6, _)] _ _ _)
          refine PW.iincN rfl (by decide) dX6_stitches_81 (?_ : PW _ _ _ _ [(0, _), (1, _), (2, _), (3, _), (4, _), (5, _), (6, _)] _ _ _)
          refine PW.goto 43 (by decide) dX6_stitches_84 ?_
          first | exact ih (behN R 1 y, lm) ⟨hb, hlm, st1 hc53, by rw [st2 hc53, if_neg (by omega)]⟩ | exact ih (behN R 1 y, y) ⟨hb, by omega, st1 hc53, by rw [st2 hc53, if_pos (by omega)]⟩
    · obtain ⟨y, lm⟩ := y
      obtain ⟨hy, hlm, hcm, hls⟩ := hI
      simp only at hy hlm hcm hls
      refine PW.iload rfl dX6_stitches_43 ?_
      refine PW.bipush (v := nI 6) (by decide) dX6_stitches_45 ?_
      refine PW.icmp_geN 87 (by decide) (by first | omega | (split <;> omega)) (by first | omega | (split <;> omega)) dX6_stitches_47 (fun hc47 => ?_) (fun hc47 => by (exfalso; omega))
      exact tail _ lm y 6 rfl (fun _ => hls) hcm (by omega)
  · rw [stiS, if_neg hg]
    refine Ret.of (by decide) (Nat.le_of_ble_eq_true rfl) fun l G => ?_
    show PW _ _ _ _ [(0, _), (1, _), (2, _), (3, _)] _ _ _
    refine PW.aload_n rfl rfl dX6_stitches_0 ?_
    refine PW.iload_n rfl rfl dX6_stitches_1 ?_
    refine PW.cV (ci := 6) (j := 0) _ hS.1 (by decide) rfl kX6_178 (m_isPocket hS hM hD _) rfl rfl (Nat.le_of_ble_eq_true rfl) rfl ⟨by decide, by decide⟩ ⟨Nat.zero_le _, Nat.zero_le _⟩ dX6_stitches_2 ?_
    refine PW.if_eqB 31 (by decide) dX6_stitches_5 (fun hc5 => ?_) (fun hc5 => ?_)
    · refine PW.iconst (v := -1) (by decide) dX6_stitches_31 ?_
      refine PW.iret rfl (Nat.le_refl _) (Nat.le_refl _) dX6_stitches_32 ?_
      exact ⟨rfl, rfl⟩
    · refine PW.aload_n rfl rfl dX6_stitches_8 ?_
      refine PW.iload_n rfl rfl dX6_stitches_9 ?_
      refine PW.cV (ci := 6) (j := 0) _ hS.1 (by decide) rfl kX6_178 (m_isPocket hS hM hD _) rfl rfl (Nat.le_of_ble_eq_true rfl) rfl ⟨by decide, by decide⟩ ⟨Nat.zero_le _, Nat.zero_le _⟩ dX6_stitches_10 ?_
      refine PW.if_eqB 31 (by decide) dX6_stitches_13 (fun hc13 => ?_) (fun hc13 => ?_)
      · refine PW.iconst (v := -1) (by decide) dX6_stitches_31 ?_
        refine PW.iret rfl (Nat.le_refl _) (Nat.le_refl _) dX6_stitches_32 ?_
        exact ⟨rfl, rfl⟩
      · refine PW.iload_n rfl rfl dX6_stitches_16 ?_
        refine PW.iload_n rfl rfl dX6_stitches_17 ?_
        refine PW.icmp_eq 31 (by decide) dX6_stitches_18 (fun hc18 => ?_) (fun hc18 => ?_)
        · refine PW.iconst (v := -1) (by decide) dX6_stitches_31 ?_
          refine PW.iret rfl (Nat.le_refl _) (Nat.le_refl _) dX6_stitches_32 ?_
          exact ⟨rfl, rfl⟩
        · refine PW.iload_n rfl rfl dX6_stitches_21 ?_
          refine PW.i2l dX6_stitches_22 ?_
          refine PW.lconst (v := 0) (by decide) dX6_stitches_23 ?_
          refine PW.lconst (v := 1) (by decide) dX6_stitches_24 ?_
          refine PW.cS _ kX6_82 (m_inR x (h := 1) (n := 2) rfl mem) rfl rfl (Nat.le_of_ble_eq_true rfl) ⟨by decide, by decide⟩ ⟨Nat.zero_le _, Nat.zero_le _⟩ dX6_stitches_25 ?_
          refine PW.if_neB 33 (by decide) dX6_stitches_28 (fun hc28 => by exact absurd ⟨hc5, hc13, hc18, hc28⟩ hg) (fun hc28 => ?_)
          refine PW.iconst (v := -1) (by decide) dX6_stitches_31 ?_
          refine PW.iret rfl (Nat.le_refl _) (Nat.le_refl _) dX6_stitches_32 ?_
          exact ⟨rfl, rfl⟩
end STI
