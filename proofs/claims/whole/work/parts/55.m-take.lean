/-! ===== the model reads numbers ===== -/
def RM (mem : pw_M) (R : DR) : Prop :=
  fi mem 95 20 = nI (R 0 0) ∧ fi mem 95 25 = nI (R 1 0) ∧ fi mem 95 23 = nI (R 2 0) ∧
  (∀ k, k < R 0 0 → iv mem 105 (8 * k) = nI (R 3 k) ∧ iv mem 105 (8 * k + 1) = nI (R 4 k) ∧ iv mem 105 (8 * k + 2) = nI (R 5 k) ∧ iv mem 105 (8 * k + 3) = nI (R 6 k) ∧ iv mem 105 (8 * k + 4) = nI (R 7 k) ∧ (R 7 k ≠ 0 → iv mem 105 (8 * k + 5) = nI (R 8 k)) ∧ iv mem 105 (8 * k + 6) = hI (R 10 k) ∧ (R 10 k ≠ 9 → iv mem 105 (8 * k + 7) = nI (R 11 k))) ∧
  (∀ a c, a < 6 → c < 6 → iv mem 106 (6 * a + c) = bI ((R 9 a).testBit c) ∧ iv mem 107 (6 * a + c) = nI (R 12 (6 * a + c))) ∧
  (∀ t, t < R 1 0 → iv mem 108 (4 * t) = nI (R 13 t) ∧ iv mem 108 (4 * t + 1) = nI (R 14 t) ∧ iv mem 108 (4 * t + 2) = nI (R 15 t) ∧ iv mem 108 (4 * t + 3) = nI (R 16 t))
theorem RM.ag {mem m : pw_M} {R : DR} {A : Nat → Prop} (h : RM mem R) (hA : Ag A mem m) (h20 : fi m 95 20 = fi mem 95 20) (h25 : fi m 95 25 = fi mem 95 25) (h23 : fi m 95 23 = fi mem 95 23) (hq : ∀ q, 105 ≤ q → q ≤ 108 → A q) : RM m R := by
  obtain ⟨q0, q1, q2, q3, q4, q5⟩ := h
  have e5 := hA.iv (hq 105 (by decide) (by decide))
  have e6 := hA.iv (hq 106 (by decide) (by decide))
  have e7 := hA.iv (hq 107 (by decide) (by decide))
  have e8 := hA.iv (hq 108 (by decide) (by decide))
  refine ⟨h20.trans q0, h25.trans q1, h23.trans q2, fun k hk => ?_, fun a c ha hc => ?_, fun t ht => ?_⟩
  · simp only [e5]; exact q3 k hk
  · simp only [e6, e7]; exact q4 a c ha hc
  · simp only [e8]; exact q5 t ht
/-- nothing but the reader and its numbers -/
def Rn (mem m : pw_M) : Prop := Ag (fun r => r ≠ 95 ∧ r ≠ 109) mem m ∧ ∀ j, j < 15 ∨ 18 < j → fv m 95 j = fv mem 95 j
theorem Rn.rf {m : pw_M} : Rn m m := ⟨Ag.rf, fun _ _ => rfl⟩
theorem Rn.tr {m m1 m2 : pw_M} (h1 : Rn m m1) (h2 : Rn m1 m2) : Rn m m2 := ⟨h1.1.tr h2.1, fun j hj => (h2.2 j hj).trans (h1.2 j hj)⟩
theorem Rd.rn {m m1 : pw_M} (h : Rd m m1) : Rn m m1 := ⟨h.1.mono (fun _ q => q.1), h.2⟩
theorem TM.rn {mem m : pw_M} {L : Nat} {f : Nat → Nat} (h : TM mem L f) (hR : Rn mem m) : TM m L f := h.ag2 (fi_fv (hR.2 1 (by omega))) (fun q => hR.1.iv ⟨by decide, by decide⟩ q)
theorem RM.rn {mem m : pw_M} {R : DR} (h : RM mem R) (hR : Rn mem m) : RM m R := h.ag hR.1 (fi_fv (hR.2 20 (by omega))) (fi_fv (hR.2 25 (by omega))) (fi_fv (hR.2 23 (by omega))) (fun q h1 h2 => ⟨by omega, by omega⟩)
theorem arg_snoc {f : Nat → Nat} {n P r : Nat} : ∀ (l : List Nat) (i : Nat) (sd : Nat → Nat) (q : Nat), (arg f n P l i sd q).1 = true → arg f n P (l ++ [r]) i sd q = if (tk f n (arg f n P l i sd q).2.1).1 = 256 ∧ mbB P r (tset (arg f n P l i sd q).2.2 (i + l.length) (tk f n (arg f n P l i sd q).2.1).2.1 0) (tk f n (arg f n P l i sd q).2.1).2.1 = true then (true, (tk f n (arg f n P l i sd q).2.1).2.2.2, tset (arg f n P l i sd q).2.2 (i + l.length) (tk f n (arg f n P l i sd q).2.1).2.1) else (false, (tk f n (arg f n P l i sd q).2.1).2.2.1, (arg f n P l i sd q).2.2)
  | [], i, sd, q, _ => rfl
  | r0 :: l, i, sd, q, h => by
    rw [arg] at h
    by_cases hc : (tk f n q).1 = 256 ∧ mbB P r0 (tset sd i (tk f n q).2.1 0) (tk f n q).2.1 = true
    · rw [if_pos hc] at h
      have ih := arg_snoc (r := r) l (i + 1) _ _ h
      rw [List.cons_append, arg, if_pos hc, arg, if_pos hc, ih, List.length_cons, show i + 1 + l.length = i + (l.length + 1) by omega]
    · rw [if_neg hc] at h
      cases h
/-- the numbers of the roles l are read, from q on -/
def AS (mem : pw_M) (f : Nat → Nat) (n P : Nat) (l : List Nat) (q : Nat) : Prop := (arg f n P l 0 (fun _ => 0) q).1 = true ∧ fi mem 95 15 = nI (arg f n P l 0 (fun _ => 0) q).2.1 ∧ ∀ j, j < l.length → iv mem 109 j = nI ((arg f n P l 0 (fun _ => 0) q).2.2 j)
theorem tkM_1 {k : Nat} : tkM k = 1 ↔ k = 256 := by
  unfold tkM
  by_cases h1 : k = 257
  · rw [if_pos h1]; omega
  · rw [if_neg h1]
    by_cases h2 : k = 256
    · rw [if_pos h2]; omega
    · rw [if_neg h2]; omega
theorem tkM_le {k : Nat} : tkM k ≤ 2 := by
  unfold tkM
  split
  · omega
  · split <;> omega
section MTAKE
variable {b s : Nat} {sc : pw_E} {mem : pw_M} {R : DR} {n : Nat} {f : Nat → Nat}
set_option maxHeartbeats 8000000 in
theorem m_takes (hS : St b s sc mem) (hX : TM mem n f) (hn : n ≤ 200) (hf : ∀ i, i < n → f i < 256) {q : Nat} (hq : q ≤ n) (h3 : fi mem 95 15 = nI q) {i lo : Nat} {hi : Int32} (hi4 : i < 4) (hlo : lo < 100) : Ret 2 0 0 mX6_takes [.ref 95, .int (nI i), .int (nI lo), .int hi] mem (fun v m1 => v = some (.int (bI (decide ((tk f n q).1 = 256 ∧ lo ≤ (tk f n q).2.1 ∧ ((tk f n q).2.1 : Int) ≤ hi.toInt)))) ∧ St b s sc m1 ∧ Rn mem m1 ∧ MT m1 (tk f n q) ∧ ∀ j, iv m1 109 j = if j = i then nI (vaM (tk f n q)) else iv mem 109 j) := by
  have hks := tk_spec hn hf hq
  have hnt := m_nextToken hS hX hn hf hq h3
  generalize tk f n q = t at hks hnt ⊢
  have hkM := tkM_le (k := t.1)
  have hva : vaM t < 256 := by
    unfold vaM
    split
    · omega
    · split <;> omega
  have hv6 : t.1 = 256 → vaM t = t.2.1 := fun h => if_pos h
  have ed : t.1 = 256 → decide ((nI lo).toInt64 ≤ (nI (vaM t)).toInt64 ∧ (nI (vaM t)).toInt64 ≤ hi.toInt64) = decide (t.1 = 256 ∧ lo ≤ t.2.1 ∧ (t.2.1 : Int) ≤ hi.toInt) := fun h => by
    congr 1
    apply propext
    rw [Int64.le_iff_toInt_le, Int64.le_iff_toInt_le, Int32.toInt_toInt64, Int32.toInt_toInt64, Int32.toInt_toInt64, nI_toInt (n := lo) (by omega), nI_toInt (n := vaM t) (by omega), hv6 h]
    constructor
    · intro z; exact ⟨h, by omega, z.2⟩
    · intro z; exact ⟨by omega, z.2.2⟩
  refine Ret.of (by decide) (Nat.le_of_ble_eq_true rfl) fun l G => ?_
  show PW _ _ _ _ [(0, _), (1, _), (2, _), (3, _)] _ _ _
  refine PW.aload_n rfl rfl dX6_takes_0 ?_
  refine PW.dV (ci := 6) (j := 0) _ hS.1 (by decide) rfl kX6_114 (hnt) rfl rfl (Nat.le_of_ble_eq_true rfl) rfl ⟨by decide, by decide⟩ ⟨Nat.zero_le _, Nat.zero_le _⟩ dX6_takes_1 (fun v m1 q => ?_)
  obtain ⟨rfl, hS, hR, ht⟩ := q
  refine PW.aload_n rfl rfl dX6_takes_4 ?_
  refine PW.gR hS.1 (by decide) rfl fX6_50 dX6_takes_5 ?_
  refine PW.iload_n rfl rfl dX6_takes_8 ?_
  refine PW.aload_n rfl rfl dX6_takes_9 ?_
  refine PW.gI hS.1 (by decide) rfl (ht.2.2.1) fX6_104 dX6_takes_10 ?_
  refine PW.uI hS (by decide) rfl (by exact rfl) ⟨by omega, by decide⟩ dX6_takes_13 (fun hS hw13 => ?_)
  refine PW.aload_n rfl rfl dX6_takes_14 ?_
  refine PW.gI hS.1 (by decide) rfl (fi_wI.trans ht.2.1) fX6_107 dX6_takes_15 ?_
  refine PW.iconst (v := nI 1) (by decide) dX6_takes_18 ?_
  refine PW.icmp_neN 41 (by decide) (by first | omega | (split <;> omega)) (by first | omega | (split <;> omega)) dX6_takes_19 (fun hc19 => ?_) (fun hc19 => ?_)
  · refine PW.iconst (v := nI 0) (by decide) dX6_takes_41 ?_
    refine PW.zret rfl (by first | exact bI_nar _ | rfl) (Nat.le_refl _) (Nat.le_refl _) dX6_takes_42 ?_
    refine ⟨?_, hS, ⟨(hR.1.mono (fun r h => h.1)).tr (Ag.wI (fun h => h.2 rfl)), fun j hj => fv_wI.trans (hR.2 j hj)⟩, ⟨fi_wI.trans ht.1, fi_wI.trans ht.2.1, fi_wI.trans ht.2.2.1, fi_wI.trans ht.2.2.2⟩, fun j => by rw [hw13, hR.1.iv (r := 109) (by decide)]⟩
    first | (rw [decide_eq_false (fun z => hc19 (tkM_1.mpr z.1))]; rfl) | (rw [← ed (tkM_1.mp hc19), hc34]; rfl)
  · refine PW.aload_n rfl rfl dX6_takes_22 ?_
    refine PW.gI hS.1 (by decide) rfl (fi_wI.trans ht.2.2.1) fX6_104 dX6_takes_23 ?_
    refine PW.i2l dX6_takes_26 ?_
    refine PW.iload_n rfl rfl dX6_takes_27 ?_
    refine PW.i2l dX6_takes_28 ?_
    refine PW.iload_n rfl rfl dX6_takes_29 ?_
    refine PW.i2l dX6_takes_30 ?_
    refine PW.cS _ kX6_82 (m_in _ _ _ _) rfl rfl (Nat.le_of_ble_eq_true rfl) ⟨by decide, by decide⟩ ⟨Nat.zero_le _, Nat.zero_le _⟩ dX6_takes_31 ?_
    refine PW.if_eqB 41 (by decide) dX6_takes_34 (fun hc34 => ?_) (fun hc34 => ?_)
    · refine PW.iconst (v := nI 0) (by decide) dX6_takes_41 ?_
      refine PW.zret rfl (by first | exact bI_nar _ | rfl) (Nat.le_refl _) (Nat.le_refl _) dX6_takes_42 ?_
      refine ⟨?_, hS, ⟨(hR.1.mono (fun r h => h.1)).tr (Ag.wI (fun h => h.2 rfl)), fun j hj => fv_wI.trans (hR.2 j hj)⟩, ⟨fi_wI.trans ht.1, fi_wI.trans ht.2.1, fi_wI.trans ht.2.2.1, fi_wI.trans ht.2.2.2⟩, fun j => by rw [hw13, hR.1.iv (r := 109) (by decide)]⟩
      first | (rw [decide_eq_false (fun z => hc19 (tkM_1.mpr z.1))]; rfl) | (rw [← ed (tkM_1.mp hc19), hc34]; rfl)
    · refine PW.iconst (v := nI 1) (by decide) dX6_takes_37 ?_
      refine PW.goto 42 (by decide) dX6_takes_38 ?_
      refine PW.zret rfl (by first | exact bI_nar _ | rfl) (Nat.le_refl _) (Nat.le_refl _) dX6_takes_42 ?_
      refine ⟨?_, hS, ⟨(hR.1.mono (fun r h => h.1)).tr (Ag.wI (fun h => h.2 rfl)), fun j hj => fv_wI.trans (hR.2 j hj)⟩, ⟨fi_wI.trans ht.1, fi_wI.trans ht.2.1, fi_wI.trans ht.2.2.1, fi_wI.trans ht.2.2.2⟩, fun j => by rw [hw13, hR.1.iv (r := 109) (by decide)]⟩
      first | (rw [decide_eq_false (fun z => hc19 (tkM_1.mpr z.1))]; rfl) | (rw [← ed (tkM_1.mp hc19), hc34]; rfl)
theorem role_k {P r lo hi : Nat} (h : ∀ s0 v, mbB P r s0 v = decide (lo ≤ v ∧ v ≤ hi)) (hh : hi < 100) : ∀ s0 v : Nat, ((lo ≤ v ∧ (v : Int) ≤ (nI hi).toInt) ↔ mbB P r s0 v = true) := fun s0 v => by
  rw [h, nI_toInt (n := hi) (by omega), decide_eq_true_iff]
  constructor <;> (intro z; omega)
theorem role_6 {P : Nat} (hP : P ≤ 6) : ∀ s0 v : Nat, ((0 ≤ v ∧ (v : Int) ≤ (nI P - nI 1).toInt) ↔ mbB P 6 s0 v = true) := fun s0 v => by
  rw [show mbB P 6 s0 v = decide (v < P) from rfl, sub1_toInt (by omega), decide_eq_true_iff]
  constructor <;> (intro z; omega)
theorem m_take (hS : St b s sc mem) (hX : TM mem n f) (hn : n ≤ 200) (hf : ∀ i, i < n → f i < 256) {P q : Nat} (hq : q ≤ n) (l l' : List Nat) (r : Nat) (hl : l' = l ++ [r]) (hi4 : l.length < 4) (hA : AS mem f n P l q) {lo : Nat} {hi : Int32} (hlo : lo < 100) (hr : ∀ s0 v, ((lo ≤ v ∧ (v : Int) ≤ hi.toInt) ↔ mbB P r s0 v = true)) : Ret 2 0 0 mX6_takes [.ref 95, .int (nI l.length), .int (nI lo), .int hi] mem (fun v m1 => v = some (.int (bI (arg f n P l' 0 (fun _ => 0) q).1)) ∧ St b s sc m1 ∧ Rn mem m1 ∧ ((arg f n P l' 0 (fun _ => 0) q).1 = true → AS m1 f n P l' q) ∧ ((arg f n P l' 0 (fun _ => 0) q).1 = false → fi m1 95 18 = nI (arg f n P l' 0 (fun _ => 0) q).2.1) ∧ fi m1 95 18 = nI (tk f n (arg f n P l 0 (fun _ => 0) q).2.1).2.2.1) := by
  obtain ⟨a1, a2, a3⟩ := hA
  have hq2 := arg_q (P := P) hn hf l 0 (fun _ => 0) q hq
  have hsn := arg_snoc (r := r) l 0 (fun _ => 0) q a1
  rw [Nat.zero_add, ← hl] at hsn
  refine (m_takes hS hX hn hf hq2.2 a2 hi4 hlo (hi := hi)).mono (fun v m1 hQ => ?_)
  obtain ⟨hv, hS1, hR, ht, h109⟩ := hQ
  generalize arg f n P l 0 (fun _ => 0) q = A at a1 a2 a3 hsn hv ht h109 ⊢
  by_cases hc : (tk f n A.2.1).1 = 256 ∧ mbB P r (tset A.2.2 l.length (tk f n A.2.1).2.1 0) (tk f n A.2.1).2.1 = true
  · rw [if_pos hc] at hsn
    refine ⟨?_, hS1, hR, fun _ => ?_, fun h => ?_, ht.2.2.2⟩
    · rw [hv, hsn, decide_eq_true ⟨hc.1, (hr _ _).mpr hc.2⟩]
    · unfold AS
      rw [hsn]
      refine ⟨rfl, ht.1, fun j hj => ?_⟩
      rw [h109]
      show _ = nI (if j = l.length then _ else _)
      by_cases e : j = l.length
      · rw [if_pos e, if_pos e]
        show nI (if (tk f n A.2.1).1 = 256 then _ else _) = _
        rw [if_pos hc.1]
      · rw [if_neg e, if_neg e]
        rw [hl, List.length_append] at hj
        exact a3 j (by have : [r].length = 1 := rfl; omega)
    · rw [hsn] at h; cases h
  · rw [if_neg hc] at hsn
    refine ⟨?_, hS1, hR, fun h => ?_, fun _ => ?_, ht.2.2.2⟩
    · rw [hv, hsn, decide_eq_false (fun z => hc ⟨z.1, (hr _ _).mp z.2⟩)]
    · rw [hsn] at h; cases h
    · rw [hsn]; exact ht.2.2.2
end MTAKE
