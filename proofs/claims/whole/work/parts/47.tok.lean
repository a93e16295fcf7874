/-! ===== tokens of a text ===== -/
def run (p : Nat → Bool) (n : Nat) : Nat → Nat → Nat
  | 0, q => q
  | k + 1, q => if q < n ∧ p q = true then run p n k (q + 1) else q
theorem run_spec {p : Nat → Bool} {n : Nat} : ∀ k q, n ≤ q + k → q ≤ n → q ≤ run p n k q ∧ run p n k q ≤ n ∧ (∀ i, q ≤ i → i < run p n k q → p i = true) ∧ (run p n k q < n → p (run p n k q) = false)
  | 0, q, h, hq => ⟨Nat.le_refl _, hq, fun i h1 h2 => absurd h2 (Nat.not_lt.mpr h1), fun h3 => by rw [run] at h3; omega⟩
  | k + 1, q, h, hq => by
    rw [run]
    by_cases hc : q < n ∧ p q = true
    · rw [if_pos hc]
      obtain ⟨h1, h2, h3, h4⟩ := run_spec (p := p) (n := n) k (q + 1) (by omega) (by omega)
      refine ⟨by omega, h2, fun i hi1 hi2 => ?_, h4⟩
      by_cases e : i = q
      · rw [e]; exact hc.2
      · exact h3 i (by omega) hi2
    · rw [if_neg hc]
      refine ⟨Nat.le_refl _, hq, fun i h1 h2 => absurd h2 (Nat.not_lt.mpr h1), fun h3 => ?_⟩
      cases hp : p q
      · rfl
      · exact absurd ⟨h3, hp⟩ hc
def dgt (f : Nat → Nat) (i : Nat) : Bool := decide (48 ≤ f i ∧ f i ≤ 57)
def blk (f : Nat → Nat) (i : Nat) : Bool := decide (f i = 32)
def vl (f : Nat → Nat) (a : Nat) : Nat → Nat
  | 0 => 0
  | j + 1 => if vl f a j * 10 + f (a + j) - 48 < 100 then vl f a j * 10 + f (a + j) - 48 else 100
def vm (f : Nat → Nat) (a : Nat) : Nat → Nat
  | 0 => 0
  | j + 1 => if vm f a j ≤ 99 then 10 * vm f a j + f (a + j) - 48 else vm f a j
theorem vl_le {f : Nat → Nat} {a : Nat} : ∀ j, vl f a j ≤ 100
  | 0 => Nat.zero_le _
  | j + 1 => by rw [vl]; split <;> omega
theorem vm_vl {f : Nat → Nat} {a : Nat} : ∀ j, (∀ i, i < j → 48 ≤ f (a + i) ∧ f (a + i) ≤ 57) → vm f a j ≤ 1000 ∧ vl f a j = if vm f a j < 100 then vm f a j else 100
  | 0, _ => ⟨Nat.zero_le _, rfl⟩
  | j + 1, h => by
    obtain ⟨h1, h2⟩ := vm_vl j (fun i hi => h i (by omega))
    have h3 := h j (by omega)
    rw [vm, vl, h2]
    by_cases q : vm f a j ≤ 99
    · rw [if_pos q, if_pos (show vm f a j < 100 by omega)]
      refine ⟨by omega, ?_⟩
      by_cases q2 : vm f a j * 10 + f (a + j) - 48 < 100
      · rw [if_pos q2, if_pos (by omega)]; omega
      · rw [if_neg q2, if_neg (by omega)]
    · rw [if_neg q, if_neg (show ¬ vm f a j < 100 by omega), if_neg (by omega)]
      exact ⟨h1, rfl⟩
def numE (f : Nat → Nat) (n a : Nat) : Nat := run (dgt f) n 200 a
def okN (f : Nat → Nat) (a e : Nat) : Bool := decide ((e - a = 1 ∨ f a ≠ 48) ∧ vl f a (e - a) ≤ 99)
def tkA (f : Nat → Nat) (n a : Nat) : Nat × Nat × Nat × Nat := if n ≤ a then (257, 0, a, a) else if dgt f a = true then (if okN f a (numE f n a) = true then (256, vl f a (numE f n a - a), a, numE f n a) else (258, 0, a, numE f n a)) else (f a, 0, a, a + 1)
/-- the token from q on: what it is (a letter, 256 a number, 257 the end, 258 a wrong one), its value, where it begins, what follows -/
def tk (f : Nat → Nat) (n q : Nat) : Nat × Nat × Nat × Nat := tkA f n (run (blk f) n 200 q)
theorem numE_gt {f : Nat → Nat} {n a : Nat} (hn : n ≤ 200) (ha : a < n) (hd : dgt f a = true) : a < numE f n a ∧ numE f n a ≤ n ∧ (∀ i, a ≤ i → i < numE f n a → 48 ≤ f i ∧ f i ≤ 57) ∧ (numE f n a < n → dgt f (numE f n a) = false) := by
  obtain ⟨h1, h2, h3, h4⟩ := run_spec (p := dgt f) (n := n) 200 a (by omega) (by omega)
  refine ⟨?_, h2, fun i q1 q2 => of_decide_eq_true (h3 i q1 q2), h4⟩
  refine Nat.lt_of_le_of_ne h1 fun e => ?_
  have e : a = run (dgt f) n 200 a := e
  rw [← e] at h4
  have h5 := h4 ha
  rw [hd] at h5
  cases h5
theorem tk_spec {f : Nat → Nat} {n q : Nat} (hn : n ≤ 200) (hf : ∀ i, i < n → f i < 256) (hq : q ≤ n) : (tk f n q).1 ≤ 258 ∧ (tk f n q).2.1 ≤ 99 ∧ q ≤ (tk f n q).2.2.1 ∧ (tk f n q).2.2.1 ≤ n ∧ q ≤ (tk f n q).2.2.2 ∧ (tk f n q).2.2.2 ≤ n ∧ ((tk f n q).1 ≠ 257 → q < (tk f n q).2.2.2) ∧ ((tk f n q).1 ≠ 256 → (tk f n q).2.1 = 0) := by
  obtain ⟨h1, h2, h3, h4⟩ := run_spec (p := blk f) (n := n) 200 q (by omega) hq
  unfold tk tkA
  generalize run (blk f) n 200 q = a at h1 h2 h3 h4 ⊢
  by_cases hna : n ≤ a
  · rw [if_pos hna]
    exact ⟨by show 257 ≤ 258; decide, Nat.zero_le _, h1, h2, h1, h2, fun h => absurd rfl h, fun _ => rfl⟩
  · rw [if_neg hna]
    by_cases hd : dgt f a = true
    · rw [if_pos hd]
      obtain ⟨g1, g2, g3, g4⟩ := numE_gt hn (by omega) hd
      by_cases ho : okN f a (numE f n a) = true
      · rw [if_pos ho]
        exact ⟨by show 256 ≤ 258; decide, (of_decide_eq_true ho).2, h1, h2, Nat.le_trans h1 (Nat.le_of_lt g1), g2, fun _ => Nat.lt_of_le_of_lt h1 g1, fun h => absurd rfl h⟩
      · rw [if_neg ho]
        exact ⟨by show 258 ≤ 258; decide, Nat.zero_le _, h1, h2, Nat.le_trans h1 (Nat.le_of_lt g1), g2, fun _ => Nat.lt_of_le_of_lt h1 g1, fun _ => rfl⟩
    · rw [if_neg hd]
      have h5 := hf a (by omega)
      exact ⟨by show f a ≤ 258; omega, Nat.zero_le _, h1, h2, by show q ≤ a + 1; omega, by show a + 1 ≤ n; omega, fun _ => by show q < a + 1; omega, fun _ => rfl⟩
theorem TX.wF {mem : pw_M} {L j : Nat} {f : Nat → Nat} {v : Value} (h : TX mem L f) (hj : j ≠ 2) : TX (wF mem 10 j v) L f :=
  ⟨by rw [fi_wF_ne (Or.inr (fun e => hj e.symm))]; exact h.1, fun i hi => by rw [iv_wF]; exact h.2 i hi⟩
/-- the class's reader behind a token -/
def XT (mem : pw_M) (t : Nat × Nat × Nat × Nat) : Prop := fi mem 10 3 = nI t.2.2.2 ∧ fi mem 10 4 = nI t.1 ∧ fi mem 10 5 = nI t.2.2.1 ∧ (t.1 = 256 → fi mem 10 6 = nI t.2.1)
section XTOK
variable {b s : Nat} {sc : pw_E} {mem : pw_M} {n : Nat} {f : Nat → Nat}
set_option maxHeartbeats 4000000 in
theorem x_isDigit {c : Nat} (hc : c < 256) (mem : pw_M) : Rf 1 mX4_isDigit [.int (nI c)] mem (some (.int (bI (decide (48 ≤ c ∧ c ≤ 57))))) mem := by
  have e : decide (nI 48 ≤ nI c ∧ nI c ≤ nI 57) = decide (48 ≤ c ∧ c ≤ 57) := by
    rw [rng_x, nI_toInt (n := c) (by omega), show (nI 48).toInt = 48 from rfl, show (nI 57).toInt = 57 from rfl]
    congr 1
    apply propext
    constructor <;> (intro h; omega)
  refine Ret.of (by decide) (Nat.le_of_ble_eq_true rfl) fun l G => ?_
  show PW _ _ _ _ [(0, _)] _ _ _
  refine PW.iload_n rfl rfl dX4_isDigit_0 ?_
  refine PW.bipush (v := nI 48) (by decide) dX4_isDigit_1 ?_
  refine PW.bipush (v := nI 57) (by decide) dX4_isDigit_3 ?_
  refine PW.cSN _ kX4_86 (x_within (nI c) (nI 48) (nI 57) mem) rfl rfl (Nat.le_of_ble_eq_true rfl) ⟨by decide, by decide⟩ ⟨Nat.zero_le _, Nat.zero_le _⟩ dX4_isDigit_5 ?_
  refine PW.zret rfl (by first | exact bI_nar _ | rfl) (Nat.le_refl _) (Nat.le_refl _) dX4_isDigit_8 ?_
  exact ⟨by rw [e], rfl⟩
set_option maxHeartbeats 8000000 in
theorem x_readNumber (hS : St b s sc mem) (hX : TX mem n f) (hn : n ≤ 200) (hf : ∀ i, i < n → f i < 256) {a : Nat} (ha : a < n) (hd : dgt f a = true) (h3 : fi mem 10 3 = nI a) (h5 : fi mem 10 5 = nI a) : Ret 2 0 0 mX4_readNumber [.ref 10] mem (fun v m1 => v = none ∧ St b s sc m1 ∧ Ag (fun r => r ≠ 10) mem m1 ∧ TX m1 n f ∧ fi m1 10 3 = nI (numE f n a) ∧ fi m1 10 5 = nI a ∧ fi m1 10 4 = nI (if okN f a (numE f n a) = true then 256 else 258) ∧ fi m1 10 6 = nI (vl f a (numE f n a - a))) := by
  obtain ⟨g1, g2, g3, g4⟩ := numE_gt hn ha hd
  generalize numE f n a = e at g1 g2 g3 g4 ⊢
  refine Ret.of (by decide) (Nat.le_of_ble_eq_true rfl) fun l G => ?_
  show PW _ _ _ _ [(0, _)] _ _ _
  refine PW.aload_n rfl rfl dX4_readNumber_0 ?_
  refine PW.iconst (v := nI 0) (by decide) dX4_readNumber_1 ?_
  refine PW.tI hS (by decide) rfl pX4_55 dX4_readNumber_2 (fun hS hw2 => ?_)
  skip
  refine PW.loop (I := fun j m => St b s sc m ∧ Ag (fun r => r ≠ 10) mem m ∧ TX m n f ∧ fi m 10 3 = nI (a + j) ∧ fi m 10 5 = nI a ∧ fi m 10 6 = nI (vl f a j)) (fun j _ => [(0, .ref 10)]) (fun _ m => m) (e - a) (fun j m hj hI ih => ?_) (fun m hI => ?_) _ ⟨hS, Ag.wF (fun h => h rfl), hX.wF (by decide), (fi_wF_ne (Or.inr (by decide))).trans h3, (fi_wF_ne (Or.inr (by decide))).trans h5, hw2⟩
  · obtain ⟨hS, hA, hX, h3, h5, h6⟩ := hI
    have hdj := g3 (a + j) (by omega) (by omega)
    have hv := vl_le (f := f) (a := a) j
    have hx := hX.2 (a + j) (by omega)
    have ev : vl f a (j + 1) = if vl f a j * 10 + f (a + j) - 48 < 100 then vl f a j * 10 + f (a + j) - 48 else 100 := rfl
    refine PW.aload_n rfl rfl dX4_readNumber_5 ?_
    refine PW.gI hS.1 (by decide) rfl (h3) fX4_23 dX4_readNumber_6 ?_
    refine PW.aload_n rfl rfl dX4_readNumber_9 ?_
    refine PW.gI hS.1 (by decide) rfl (hX.1) fX4_90 dX4_readNumber_10 ?_
    refine PW.icmp_geN 73 (by decide) (by first | omega | (split <;> omega)) (by first | omega | (split <;> omega)) dX4_readNumber_13 (fun hc13 => by (first | (exfalso; omega) | exact absurd (decide_eq_true hdj) (by rw [hc13]; decide))) (fun hc13 => ?_)
    refine PW.aload_n rfl rfl dX4_readNumber_16 ?_
    refine PW.gR hS.1 (by decide) rfl fX4_9 dX4_readNumber_17 ?_
    refine PW.aload_n rfl rfl dX4_readNumber_20 ?_
    refine PW.gI hS.1 (by decide) rfl (h3) fX4_23 dX4_readNumber_21 ?_
    refine PW.aI hS.1 (by decide) rfl (by exact rfl) ⟨by omega, by decide⟩ (hx) dX4_readNumber_24 ?_
    refine PW.cS _ kX4_93 (x_isDigit (c := f (a + j)) (by omega) m) rfl rfl (Nat.le_of_ble_eq_true rfl) ⟨by decide, by decide⟩ ⟨Nat.zero_le _, Nat.zero_le _⟩ dX4_readNumber_25 ?_
    refine PW.if_eqB 73 (by decide) dX4_readNumber_28 (fun hc28 => by (first | (exfalso; omega) | exact absurd (decide_eq_true hdj) (by rw [hc28]; decide))) (fun hc28 => ?_)
    refine PW.aload_n rfl rfl dX4_readNumber_31 ?_
    refine PW.bipush (v := nI 100) (by decide) dX4_readNumber_32 ?_
    refine PW.aload_n rfl rfl dX4_readNumber_34 ?_
    refine PW.gI hS.1 (by decide) rfl (h6) fX4_55 dX4_readNumber_35 ?_
    refine PW.bipush (v := nI 10) (by decide) dX4_readNumber_38 ?_
    refine PW.imulN dX4_readNumber_40 ?_
    refine PW.aload_n rfl rfl dX4_readNumber_41 ?_
    refine PW.gR hS.1 (by decide) rfl fX4_9 dX4_readNumber_42 ?_
    refine PW.aload_n rfl rfl dX4_readNumber_45 ?_
    refine PW.gI hS.1 (by decide) rfl (h3) fX4_23 dX4_readNumber_46 ?_
    refine PW.aI hS.1 (by decide) rfl (by exact rfl) ⟨by omega, by decide⟩ (hx) dX4_readNumber_49 ?_
    refine PW.iaddN dX4_readNumber_50 ?_
    refine PW.bipush (v := nI 48) (by decide) dX4_readNumber_51 ?_
    refine PW.isubN (by omega) dX4_readNumber_53 ?_
    refine PW.mminN kX4_99 ⟨by decide, by decide⟩ ⟨Nat.zero_le _, Nat.zero_le _⟩ (Nat.le_of_ble_eq_true rfl) (by first | omega | (split <;> omega)) (by first | omega | (split <;> omega)) dX4_readNumber_54 ?_
    refine PW.tI hS (by decide) rfl pX4_55 dX4_readNumber_57 (fun hS hw57 => ?_)
    refine PW.aload_n rfl rfl dX4_readNumber_60 ?_
    refine PW.dup rfl dX4_readNumber_61 ?_
    refine PW.gI hS.1 (by decide) rfl ((fi_wF_ne (Or.inr (by decide))).trans h3) fX4_23 dX4_readNumber_62 ?_
    refine PW.iconst (v := nI 1) (by decide) dX4_readNumber_65 ?_
    refine PW.iaddN dX4_readNumber_66 ?_
    refine PW.tI hS (by decide) rfl pX4_23 dX4_readNumber_67 (fun hS hw67 => ?_)
    refine PW.goto 5 (by decide) dX4_readNumber_70 ?_
    rw [← ev] at hw57
    exact ih _ ⟨hS, (hA.tr (Ag.wF (fun h => h rfl))).tr (Ag.wF (fun h => h rfl)), (hX.wF (by decide)).wF (by decide), hw67, (fi_wF_ne (Or.inr (by decide))).trans ((fi_wF_ne (Or.inr (by decide))).trans h5), (fi_wF_ne (Or.inr (by decide))).trans hw57⟩
  · obtain ⟨hS, hA, hX, h3, h5, h6⟩ := hI
    rw [show a + (e - a) = e by omega] at h3
    have hv := vl_le (f := f) (a := a) (e - a)
    have hxa := hX.2 a ha
    have hfa := hf a ha
    have o1 : (e - a = 1 ∨ f a ≠ 48) ∧ vl f a (e - a) ≤ 99 → okN f a e = true := fun h => decide_eq_true h
    have o2 : ¬ ((e - a = 1 ∨ f a ≠ 48) ∧ vl f a (e - a) ≤ 99) → okN f a e = false := fun h => decide_eq_false h
    by_cases hen : e < n
    · have hdn := g4 hen
      have hxe := hX.2 e hen
      have hfe := hf e hen
      refine PW.aload_n rfl rfl dX4_readNumber_5 ?_
      refine PW.gI hS.1 (by decide) rfl (h3) fX4_23 dX4_readNumber_6 ?_
      refine PW.aload_n rfl rfl dX4_readNumber_9 ?_
      refine PW.gI hS.1 (by decide) rfl (hX.1) fX4_90 dX4_readNumber_10 ?_
      refine PW.icmp_geN 73 (by decide) (by first | omega | (split <;> omega)) (by first | omega | (split <;> omega)) dX4_readNumber_13 (fun hc13 => by (first | (exfalso; omega) | exact absurd hc13 (by unfold dgt at hdn; rw [hdn]; decide))) (fun hc13 => ?_)
      refine PW.aload_n rfl rfl dX4_readNumber_16 ?_
      refine PW.gR hS.1 (by decide) rfl fX4_9 dX4_readNumber_17 ?_
      refine PW.aload_n rfl rfl dX4_readNumber_20 ?_
      refine PW.gI hS.1 (by decide) rfl (h3) fX4_23 dX4_readNumber_21 ?_
      refine PW.aI hS.1 (by decide) rfl (by exact rfl) ⟨by omega, by decide⟩ (hxe) dX4_readNumber_24 ?_
      refine PW.cS _ kX4_93 (x_isDigit (c := f e) hfe m) rfl rfl (Nat.le_of_ble_eq_true rfl) ⟨by decide, by decide⟩ ⟨Nat.zero_le _, Nat.zero_le _⟩ dX4_readNumber_25 ?_
      refine PW.if_eqB 73 (by decide) dX4_readNumber_28 (fun hc28 => ?_) (fun hc28 => by (first | (exfalso; omega) | exact absurd hc28 (by unfold dgt at hdn; rw [hdn]; decide)))
      refine PW.aload_n rfl rfl dX4_readNumber_73 ?_
      refine PW.gI hS.1 (by decide) rfl (h3) fX4_23 dX4_readNumber_74 ?_
      refine PW.aload_n rfl rfl dX4_readNumber_77 ?_
      refine PW.gI hS.1 (by decide) rfl (h5) fX4_37 dX4_readNumber_78 ?_
      refine PW.isubN (by omega) dX4_readNumber_81 ?_
      refine PW.istore_n rfl (by decide) dX4_readNumber_82 (?_ : PW _ _ _ _ [(0, _), (1, _)] _ _ _)
      refine PW.iload_n rfl rfl dX4_readNumber_83 ?_
      refine PW.iconst (v := nI 1) (by decide) dX4_readNumber_84 ?_
      refine PW.icmp_leN 106 (by decide) (by first | omega | (split <;> omega)) (by first | omega | (split <;> omega)) dX4_readNumber_85 (fun hc85 => ?_) (fun hc85 => ?_)
      · refine PW.iconst (v := nI 0) (by decide) dX4_readNumber_106 ?_
        refine PW.istore_n rfl (by decide) dX4_readNumber_107 (?_ : PW _ _ _ _ [(0, _), (1, _), (2, _)] _ _ _)
        refine PW.aload_n rfl rfl dX4_readNumber_108 ?_
        refine PW.aload_n rfl rfl dX4_readNumber_109 ?_
        refine PW.gI hS.1 (by decide) rfl (h6) fX4_55 dX4_readNumber_110 ?_
        refine PW.bipush (v := nI 99) (by decide) dX4_readNumber_113 ?_
        refine PW.icmp_gtN 122 (by decide) (by first | omega | (split <;> omega)) (by first | omega | (split <;> omega)) dX4_readNumber_115 (fun hc115 => ?_) (fun hc115 => ?_)
        · refine PW.sipush (v := nI 258) (by decide) dX4_readNumber_122 ?_
          refine PW.goto 131 (by decide) dX4_readNumber_125 ?_
          refine PW.tI hS (by decide) rfl pX4_30 dX4_readNumber_131 (fun hS hw131 => ?_)
          refine PW.vret rfl (Nat.le_refl _) (Nat.le_refl _) dX4_readNumber_134 ?_
          refine ⟨rfl, hS, hA.tr (Ag.wF (fun h => h rfl)), hX.wF (by decide), (fi_wF_ne (Or.inr (by decide))).trans h3, (fi_wF_ne (Or.inr (by decide))).trans h5, ?_, (fi_wF_ne (Or.inr (by decide))).trans h6⟩
          first | (rw [hw131, o1 (by omega)]; rfl) | (rw [hw131, o2 (by omega)]; rfl)
        · refine PW.iload_n rfl rfl dX4_readNumber_118 ?_
          refine PW.if_eqN 128 (by decide) (by decide) dX4_readNumber_119 (fun _ => ?_) (fun h => absurd h (by decide))
          refine PW.sipush (v := nI 256) (by decide) dX4_readNumber_128 ?_
          refine PW.tI hS (by decide) rfl pX4_30 dX4_readNumber_131 (fun hS hw131 => ?_)
          refine PW.vret rfl (Nat.le_refl _) (Nat.le_refl _) dX4_readNumber_134 ?_
          refine ⟨rfl, hS, hA.tr (Ag.wF (fun h => h rfl)), hX.wF (by decide), (fi_wF_ne (Or.inr (by decide))).trans h3, (fi_wF_ne (Or.inr (by decide))).trans h5, ?_, (fi_wF_ne (Or.inr (by decide))).trans h6⟩
          first | (rw [hw131, o1 (by omega)]; rfl) | (rw [hw131, o2 (by omega)]; rfl)
      · refine PW.aload_n rfl rfl dX4_readNumber_88 ?_
        refine PW.gR hS.1 (by decide) rfl fX4_9 dX4_readNumber_89 ?_
        refine PW.aload_n rfl rfl dX4_readNumber_92 ?_
        refine PW.gI hS.1 (by decide) rfl (h5) fX4_37 dX4_readNumber_93 ?_
        refine PW.aI hS.1 (by decide) rfl (by exact rfl) ⟨by omega, by decide⟩ (hxa) dX4_readNumber_96 ?_
        refine PW.bipush (v := nI 48) (by decide) dX4_readNumber_97 ?_
        refine PW.icmp_neN 106 (by decide) (by first | omega | (split <;> omega)) (by first | omega | (split <;> omega)) dX4_readNumber_99 (fun hc99 => ?_) (fun hc99 => ?_)
        · refine PW.iconst (v := nI 0) (by decide) dX4_readNumber_106 ?_
          refine PW.istore_n rfl (by decide) dX4_readNumber_107 (?_ : PW _ _ _ _ [(0, _), (1, _), (2, _)] _ _ _)
          refine PW.aload_n rfl rfl dX4_readNumber_108 ?_
          refine PW.aload_n rfl rfl dX4_readNumber_109 ?_
          refine PW.gI hS.1 (by decide) rfl (h6) fX4_55 dX4_readNumber_110 ?_
          refine PW.bipush (v := nI 99) (by decide) dX4_readNumber_113 ?_
          refine PW.icmp_gtN 122 (by decide) (by first | omega | (split <;> omega)) (by first | omega | (split <;> omega)) dX4_readNumber_115 (fun hc115 => ?_) (fun hc115 => ?_)
          · refine PW.sipush (v := nI 258) (by decide) dX4_readNumber_122 ?_
            refine PW.goto 131 (by decide) dX4_readNumber_125 ?_
            refine PW.tI hS (by decide) rfl pX4_30 dX4_readNumber_131 (fun hS hw131 => ?_)
            refine PW.vret rfl (Nat.le_refl _) (Nat.le_refl _) dX4_readNumber_134 ?_
            refine ⟨rfl, hS, hA.tr (Ag.wF (fun h => h rfl)), hX.wF (by decide), (fi_wF_ne (Or.inr (by decide))).trans h3, (fi_wF_ne (Or.inr (by decide))).trans h5, ?_, (fi_wF_ne (Or.inr (by decide))).trans h6⟩
            first | (rw [hw131, o1 (by omega)]; rfl) | (rw [hw131, o2 (by omega)]; rfl)
          · refine PW.iload_n rfl rfl dX4_readNumber_118 ?_
            refine PW.if_eqN 128 (by decide) (by decide) dX4_readNumber_119 (fun _ => ?_) (fun h => absurd h (by decide))
            refine PW.sipush (v := nI 256) (by decide) dX4_readNumber_128 ?_
            refine PW.tI hS (by decide) rfl pX4_30 dX4_readNumber_131 (fun hS hw131 => ?_)
            refine PW.vret rfl (Nat.le_refl _) (Nat.le_refl _) dX4_readNumber_134 ?_
            refine ⟨rfl, hS, hA.tr (Ag.wF (fun h => h rfl)), hX.wF (by decide), (fi_wF_ne (Or.inr (by decide))).trans h3, (fi_wF_ne (Or.inr (by decide))).trans h5, ?_, (fi_wF_ne (Or.inr (by decide))).trans h6⟩
            first | (rw [hw131, o1 (by omega)]; rfl) | (rw [hw131, o2 (by omega)]; rfl)
        · refine PW.iconst (v := nI 1) (by decide) dX4_readNumber_102 ?_
          refine PW.goto 107 (by decide) dX4_readNumber_103 ?_
          refine PW.istore_n rfl (by decide) dX4_readNumber_107 (?_ : PW _ _ _ _ [(0, _), (1, _), (2, _)] _ _ _)
          refine PW.aload_n rfl rfl dX4_readNumber_108 ?_
          refine PW.aload_n rfl rfl dX4_readNumber_109 ?_
          refine PW.gI hS.1 (by decide) rfl (h6) fX4_55 dX4_readNumber_110 ?_
          refine PW.bipush (v := nI 99) (by decide) dX4_readNumber_113 ?_
          refine PW.icmp_gtN 122 (by decide) (by first | omega | (split <;> omega)) (by first | omega | (split <;> omega)) dX4_readNumber_115 (fun hc115 => ?_) (fun hc115 => ?_)
          · refine PW.sipush (v := nI 258) (by decide) dX4_readNumber_122 ?_
            refine PW.goto 131 (by decide) dX4_readNumber_125 ?_
            refine PW.tI hS (by decide) rfl pX4_30 dX4_readNumber_131 (fun hS hw131 => ?_)
            refine PW.vret rfl (Nat.le_refl _) (Nat.le_refl _) dX4_readNumber_134 ?_
            refine ⟨rfl, hS, hA.tr (Ag.wF (fun h => h rfl)), hX.wF (by decide), (fi_wF_ne (Or.inr (by decide))).trans h3, (fi_wF_ne (Or.inr (by decide))).trans h5, ?_, (fi_wF_ne (Or.inr (by decide))).trans h6⟩
            first | (rw [hw131, o1 (by omega)]; rfl) | (rw [hw131, o2 (by omega)]; rfl)
          · refine PW.iload_n rfl rfl dX4_readNumber_118 ?_
            refine PW.if_eqN 128 (by decide) (by decide) dX4_readNumber_119 (fun h => absurd h (by decide)) (fun _ => ?_)
            refine PW.sipush (v := nI 258) (by decide) dX4_readNumber_122 ?_
            refine PW.goto 131 (by decide) dX4_readNumber_125 ?_
            refine PW.tI hS (by decide) rfl pX4_30 dX4_readNumber_131 (fun hS hw131 => ?_)
            refine PW.vret rfl (Nat.le_refl _) (Nat.le_refl _) dX4_readNumber_134 ?_
            refine ⟨rfl, hS, hA.tr (Ag.wF (fun h => h rfl)), hX.wF (by decide), (fi_wF_ne (Or.inr (by decide))).trans h3, (fi_wF_ne (Or.inr (by decide))).trans h5, ?_, (fi_wF_ne (Or.inr (by decide))).trans h6⟩
            first | (rw [hw131, o1 (by omega)]; rfl) | (rw [hw131, o2 (by omega)]; rfl)
    · refine PW.aload_n rfl rfl dX4_readNumber_5 ?_
      refine PW.gI hS.1 (by decide) rfl (h3) fX4_23 dX4_readNumber_6 ?_
      refine PW.aload_n rfl rfl dX4_readNumber_9 ?_
      refine PW.gI hS.1 (by decide) rfl (hX.1) fX4_90 dX4_readNumber_10 ?_
      refine PW.icmp_geN 73 (by decide) (by first | omega | (split <;> omega)) (by first | omega | (split <;> omega)) dX4_readNumber_13 (fun hc13 => ?_) (fun hc13 => by (exfalso; omega))
      refine PW.aload_n rfl rfl dX4_readNumber_73 ?_
      refine PW.gI hS.1 (by decide) rfl (h3) fX4_23 dX4_readNumber_74 ?_
      refine PW.aload_n rfl rfl dX4_readNumber_77 ?_
      refine PW.gI hS.1 (by decide) rfl (h5) fX4_37 dX4_readNumber_78 ?_
      refine PW.isubN (by omega) dX4_readNumber_81 ?_
      refine PW.istore_n rfl (by decide) dX4_readNumber_82 (?_ : PW _ _ _ _ [(0, _), (1, _)] _ _ _)
      refine PW.iload_n rfl rfl dX4_readNumber_83 ?_
      refine PW.iconst (v := nI 1) (by decide) dX4_readNumber_84 ?_
      refine PW.icmp_leN 106 (by decide) (by first | omega | (split <;> omega)) (by first | omega | (split <;> omega)) dX4_readNumber_85 (fun hc85 => ?_) (fun hc85 => ?_)
      · refine PW.iconst (v := nI 0) (by decide) dX4_readNumber_106 ?_
        refine PW.istore_n rfl (by decide) dX4_readNumber_107 (?_ : PW _ _ _ _ [(0, _), (1, _), (2, _)] _ _ _)
        refine PW.aload_n rfl rfl dX4_readNumber_108 ?_
        refine PW.aload_n rfl rfl dX4_readNumber_109 ?_
        refine PW.gI hS.1 (by decide) rfl (h6) fX4_55 dX4_readNumber_110 ?_
        refine PW.bipush (v := nI 99) (by decide) dX4_readNumber_113 ?_
        refine PW.icmp_gtN 122 (by decide) (by first | omega | (split <;> omega)) (by first | omega | (split <;> omega)) dX4_readNumber_115 (fun hc115 => ?_) (fun hc115 => ?_)
        · refine PW.sipush (v := nI 258) (by decide) dX4_readNumber_122 ?_
          refine PW.goto 131 (by decide) dX4_readNumber_125 ?_
          refine PW.tI hS (by decide) rfl pX4_30 dX4_readNumber_131 (fun hS hw131 => ?_)
          refine PW.vret rfl (Nat.le_refl _) (Nat.le_refl _) dX4_readNumber_134 ?_
          refine ⟨rfl, hS, hA.tr (Ag.wF (fun h => h rfl)), hX.wF (by decide), (fi_wF_ne (Or.inr (by decide))).trans h3, (fi_wF_ne (Or.inr (by decide))).trans h5, ?_, (fi_wF_ne (Or.inr (by decide))).trans h6⟩
          first | (rw [hw131, o1 (by omega)]; rfl) | (rw [hw131, o2 (by omega)]; rfl)
        · refine PW.iload_n rfl rfl dX4_readNumber_118 ?_
          refine PW.if_eqN 128 (by decide) (by decide) dX4_readNumber_119 (fun _ => ?_) (fun h => absurd h (by decide))
          refine PW.sipush (v := nI 256) (by decide) dX4_readNumber_128 ?_
          refine PW.tI hS (by decide) rfl pX4_30 dX4_readNumber_131 (fun hS hw131 => ?_)
          refine PW.vret rfl (Nat.le_refl _) (Nat.le_refl _) dX4_readNumber_134 ?_
          refine ⟨rfl, hS, hA.tr (Ag.wF (fun h => h rfl)), hX.wF (by decide), (fi_wF_ne (Or.inr (by decide))).trans h3, (fi_wF_ne (Or.inr (by decide))).trans h5, ?_, (fi_wF_ne (Or.inr (by decide))).trans h6⟩
          first | (rw [hw131, o1 (by omega)]; rfl) | (rw [hw131, o2 (by omega)]; rfl)
      · refine PW.aload_n rfl rfl dX4_readNumber_88 ?_
        refine PW.gR hS.1 (by decide) rfl fX4_9 dX4_readNumber_89 ?_
        refine PW.aload_n rfl rfl dX4_readNumber_92 ?_
        refine PW.gI hS.1 (by decide) rfl (h5) fX4_37 dX4_readNumber_93 ?_
        refine PW.aI hS.1 (by decide) rfl (by exact rfl) ⟨by omega, by decide⟩ (hxa) dX4_readNumber_96 ?_
        refine PW.bipush (v := nI 48) (by decide) dX4_readNumber_97 ?_
        refine PW.icmp_neN 106 (by decide) (by first | omega | (split <;> omega)) (by first | omega | (split <;> omega)) dX4_readNumber_99 (fun hc99 => ?_) (fun hc99 => ?_)
        · refine PW.iconst (v := nI 0) (by decide) dX4_readNumber_106 ?_
          refine PW.istore_n rfl (by decide) dX4_readNumber_107 (?_ : PW _ _ _ _ [(0, _), (1, _), (2, _)] _ _ _)
          refine PW.aload_n rfl rfl dX4_readNumber_108 ?_
          refine PW.aload_n rfl rfl dX4_readNumber_109 ?_
          refine PW.gI hS.1 (by decide) rfl (h6) fX4_55 dX4_readNumber_110 ?_
          refine PW.bipush (v := nI 99) (by decide) dX4_readNumber_113 ?_
          refine PW.icmp_gtN 122 (by decide) (by first | omega | (split <;> omega)) (by first | omega | (split <;> omega)) dX4_readNumber_115 (fun hc115 => ?_) (fun hc115 => ?_)
          · refine PW.sipush (v := nI 258) (by decide) dX4_readNumber_122 ?_
            refine PW.goto 131 (by decide) dX4_readNumber_125 ?_
            refine PW.tI hS (by decide) rfl pX4_30 dX4_readNumber_131 (fun hS hw131 => ?_)
            refine PW.vret rfl (Nat.le_refl _) (Nat.le_refl _) dX4_readNumber_134 ?_
            refine ⟨rfl, hS, hA.tr (Ag.wF (fun h => h rfl)), hX.wF (by decide), (fi_wF_ne (Or.inr (by decide))).trans h3, (fi_wF_ne (Or.inr (by decide))).trans h5, ?_, (fi_wF_ne (Or.inr (by decide))).trans h6⟩
            first | (rw [hw131, o1 (by omega)]; rfl) | (rw [hw131, o2 (by omega)]; rfl)
          · refine PW.iload_n rfl rfl dX4_readNumber_118 ?_
            refine PW.if_eqN 128 (by decide) (by decide) dX4_readNumber_119 (fun _ => ?_) (fun h => absurd h (by decide))
            refine PW.sipush (v := nI 256) (by decide) dX4_readNumber_128 ?_
            refine PW.tI hS (by decide) rfl pX4_30 dX4_readNumber_131 (fun hS hw131 => ?_)
            refine PW.vret rfl (Nat.le_refl _) (Nat.le_refl _) dX4_readNumber_134 ?_
            refine ⟨rfl, hS, hA.tr (Ag.wF (fun h => h rfl)), hX.wF (by decide), (fi_wF_ne (Or.inr (by decide))).trans h3, (fi_wF_ne (Or.inr (by decide))).trans h5, ?_, (fi_wF_ne (Or.inr (by decide))).trans h6⟩
            first | (rw [hw131, o1 (by omega)]; rfl) | (rw [hw131, o2 (by omega)]; rfl)
        · refine PW.iconst (v := nI 1) (by decide) dX4_readNumber_102 ?_
          refine PW.goto 107 (by decide) dX4_readNumber_103 ?_
          refine PW.istore_n rfl (by decide) dX4_readNumber_107 (?_ : PW _ _ _ _ [(0, _), (1, _), (2, _)] _ _ _)
          refine PW.aload_n rfl rfl dX4_readNumber_108 ?_
          refine PW.aload_n rfl rfl dX4_readNumber_109 ?_
          refine PW.gI hS.1 (by decide) rfl (h6) fX4_55 dX4_readNumber_110 ?_
          refine PW.bipush (v := nI 99) (by decide) dX4_readNumber_113 ?_
          refine PW.icmp_gtN 122 (by decide) (by first | omega | (split <;> omega)) (by first | omega | (split <;> omega)) dX4_readNumber_115 (fun hc115 => ?_) (fun hc115 => ?_)
          · refine PW.sipush (v := nI 258) (by decide) dX4_readNumber_122 ?_
            refine PW.goto 131 (by decide) dX4_readNumber_125 ?_
            refine PW.tI hS (by decide) rfl pX4_30 dX4_readNumber_131 (fun hS hw131 => ?_)
            refine PW.vret rfl (Nat.le_refl _) (Nat.le_refl _) dX4_readNumber_134 ?_
            refine ⟨rfl, hS, hA.tr (Ag.wF (fun h => h rfl)), hX.wF (by decide), (fi_wF_ne (Or.inr (by decide))).trans h3, (fi_wF_ne (Or.inr (by decide))).trans h5, ?_, (fi_wF_ne (Or.inr (by decide))).trans h6⟩
            first | (rw [hw131, o1 (by omega)]; rfl) | (rw [hw131, o2 (by omega)]; rfl)
          · refine PW.iload_n rfl rfl dX4_readNumber_118 ?_
            refine PW.if_eqN 128 (by decide) (by decide) dX4_readNumber_119 (fun h => absurd h (by decide)) (fun _ => ?_)
            refine PW.sipush (v := nI 258) (by decide) dX4_readNumber_122 ?_
            refine PW.goto 131 (by decide) dX4_readNumber_125 ?_
            refine PW.tI hS (by decide) rfl pX4_30 dX4_readNumber_131 (fun hS hw131 => ?_)
            refine PW.vret rfl (Nat.le_refl _) (Nat.le_refl _) dX4_readNumber_134 ?_
            refine ⟨rfl, hS, hA.tr (Ag.wF (fun h => h rfl)), hX.wF (by decide), (fi_wF_ne (Or.inr (by decide))).trans h3, (fi_wF_ne (Or.inr (by decide))).trans h5, ?_, (fi_wF_ne (Or.inr (by decide))).trans h6⟩
            first | (rw [hw131, o1 (by omega)]; rfl) | (rw [hw131, o2 (by omega)]; rfl)
end XTOK
