/-! ===== way: class ===== -/
def opE (R : DR) (t : Nat) (u v : Nat) : Bool := decide (u < R 0 0) && decide (v < R 0 0) && ((R 9 u).testBit v && letN R v t)
def stN (R : DR) (t : Nat) (pr : Bool) (A B : Nat) (u v : Nat) : Nat := if v < R 0 0 then (if pr = true then (if (u = A ∧ v = B) ∨ (u = B ∧ v = A) then 0 else prcN R u v t) else 1) else 0
theorem stN_le {R : DR} (hD : Dat R) (t : Nat) (pr : Bool) (A B u v : Nat) : stN R t pr A B u v ≤ 9 := by
  unfold stN prcN
  split
  · next h =>
    have := (hD.2.2.2.1 v h).2.2.2.1
    split
    · split
      · omega
      · split <;> omega
    · omega
  · omega
theorem opE_in {R : DR} {t u v : Nat} (hu : u < R 0 0) (hv : v < R 0 0) : opE R t u v = ((R 9 u).testBit v && letN R v t) := by
  unfold opE
  rw [decide_eq_true hu, decide_eq_true hv]
  rfl
theorem rS_add {E : Nat → Nat → Bool} {st : Nat → Nat → Nat} {f : Nat → Nat} {es : Nat → Nat × Nat} (m : Nat) : ∀ n, rS E st f es (m + n) = rS E st (rS E st f es m) (fun i => es (m + i)) n
  | 0 => rfl
  | n + 1 => by
    show rx E st (rS E st f es (m + n)) (es (m + n)).1 (es (m + n)).2 = _
    rw [rS_add m n]
    rfl
theorem rS_congr {E : Nat → Nat → Bool} {st : Nat → Nat → Nat} {f : Nat → Nat} {es es' : Nat → Nat × Nat} : ∀ n, (∀ i, i < n → es i = es' i) → rS E st f es n = rS E st f es' n
  | 0, _ => rfl
  | n + 1, h => by
    show rx E st (rS E st f es n) (es n).1 (es n).2 = rx E st (rS E st f es' n) (es' n).1 (es' n).2
    rw [rS_congr n (fun i hi => h i (by omega)), h n (by omega)]
section WAYX
variable {b s : Nat} {sc : pw_E} {mem : pw_M} {R : DR} {w : Nat → Nat} {p : Int32} {d : Nat} {e K : Nat}
set_option maxHeartbeats 8000000 in
theorem x_lowerCosts (hS : St b s sc mem) (hX : XD mem b R) (hL : XL mem b R) (hD : Dat R) {u t A B : Nat} {pr : Bool} (hu : u < R 0 0) (ht : t < 6) (hA : A < 6 ∨ A = 9) (hB : B < 6 ∨ B = 9) {g : Nat → Nat} (hg : ∀ z, g z ≤ 1000000) (hv : ∀ z, z < 6 → iv mem 46 z = nI (g z)) : Ret 2 0 0 mX5_lowerCosts [.ref 9, .int (nI u), .int (nI t), .int (bI pr), .int (hI A), .int (hI B)] mem (fun v m1 => v = none ∧ St b s sc m1 ∧ Ag (fun r => r ≠ 46) mem m1 ∧ ∀ z, z < 6 → iv m1 46 z = nI (rS (opE R t) (stN R t pr A B) g (fun c => (u, c)) (R 0 0) z)) := by
  have h6 := hD.1
  have hb := hS.b
  have huA := hI_eq (a := u) (q := A) (by omega) hA
  have huB := hI_eq (a := u) (q := B) (by omega) hB
  refine Ret.of (by decide) (Nat.le_of_ble_eq_true rfl) fun l G => ?_
  show PW _ _ _ _ [(0, _), (1, _), (2, _), (3, _), (4, _), (5, _)] _ _ _
  refine PW.iconst (v := nI 0) (by decide) dX5_lowerCosts_0 ?_
  refine PW.istore (by decide) dX5_lowerCosts_1 (?_ : PW _ _ _ _ [(0, _), (1, _), (2, _), (3, _), (4, _), (5, _), (6, _)] _ _ _)
  skip
  refine PW.loop (I := fun j m => St b s sc m ∧ Ag (fun r => r ≠ 46) mem m ∧ ∀ z, z < 6 → iv m 46 z = nI (rS (opE R t) (stN R t pr A B) g (fun c => (u, c)) j z)) (fun j _ => [(0, .ref 9), (1, .int (nI u)), (2, .int (nI t)), (3, .int (bI pr)), (4, .int (hI A)), (5, .int (hI B)), (6, .int (nI j))]) (fun _ m => m) (R 0 0) (fun j m hj hI ih => ?_) (fun m hI => ?_) mem ⟨hS, Ag.rf, hv⟩
  · obtain ⟨hS, hAg, hv⟩ := hI
    have hX2 := hX.ag hAg (fun r h1 h2 => by omega)
    have hL2 := hL.ag hAg (by omega) (by omega)
    have hjA := hI_eq (a := j) (q := A) (by omega) hA
    have hjB := hI_eq (a := j) (q := B) (by omega) hB
    have es : ∀ z, rS (opE R t) (stN R t pr A B) g (fun c => (u, c)) (j + 1) z = rx (opE R t) (stN R t pr A B) (rS (opE R t) (stN R t pr A B) g (fun c => (u, c)) j) u j z := fun _ => rfl
    have hle : ∀ z, rS (opE R t) (stN R t pr A B) g (fun c => (u, c)) j z ≤ 1000000 := fun z => Nat.le_trans (rS_le z j) (hg z)
    have hop := opE_in (R := R) (t := t) hu hj
    have hst := stN_le hD t pr A B u j
    simp only [es] at ih
    generalize rS (opE R t) (stN R t pr A B) g (fun c => (u, c)) j = q at hv hle ih
    have hno : ((R 9 u).testBit j && letN R j t) = false → ∀ m', St b s sc m' → Ag (fun r => r ≠ 46) mem m' → (∀ z, z < 6 → iv m' 46 z = nI (q z)) → PW (l, G, mX5_lowerCosts, pw_rm 2 0 0, 0, 0) 0 0 3 [(0, .ref 9), (1, .int (nI u)), (2, .int (nI t)), (3, .int (bI pr)), (4, .int (hI A)), (5, .int (hI B)), (6, .int (nI (j + 1)))] [] m' _ := fun h m' a1 a2 a3 => ih m' ⟨a1, a2, fun z hz => by unfold rx; rw [if_neg (fun k => absurd (hop.symm.trans k.2) (by rw [h]; decide))]; exact a3 z hz⟩
    have hyes : ((R 9 u).testBit j && letN R j t) = true → ∀ x, stN R t pr A B u j = x → ∀ m', St b s sc m' → Ag (fun r => r ≠ 46) mem m' → (∀ z, iv m' 46 z = if z = j then nI (if q u + x < q j then q u + x else q j) else iv m 46 z) → PW (l, G, mX5_lowerCosts, pw_rm 2 0 0, 0, 0) 0 0 3 [(0, .ref 9), (1, .int (nI u)), (2, .int (nI t)), (3, .int (bI pr)), (4, .int (hI A)), (5, .int (hI B)), (6, .int (nI (j + 1)))] [] m' _ := fun h x hx m' a1 a2 a3 => ih m' ⟨a1, a2, fun z hz => by
      unfold rx
      rw [a3, hx]
      by_cases hzj : z = j
      · rw [if_pos hzj, if_pos (show z = j ∧ opE R t u j = true from ⟨hzj, hop.trans h⟩)]
      · rw [if_neg hzj, if_neg (fun k => hzj k.1)]; exact hv z hz⟩
    have s1 : pr = false → stN R t pr A B u j = 1 := fun h => by unfold stN; rw [if_pos hj, h]; rfl
    have s2 : pr = true → ((u = A ∧ j = B) ∨ (u = B ∧ j = A)) → stN R t pr A B u j = 0 := fun h h2 => by unfold stN; rw [if_pos hj, if_pos h, if_pos h2]
    have s3 : pr = true → ¬ ((u = A ∧ j = B) ∨ (u = B ∧ j = A)) → stN R t pr A B u j = prcN R u j t := fun h h2 => by unfold stN; rw [if_pos hj, if_pos h, if_neg h2]
    have hpl : prcN R u j t ≤ 9 := by
      have := (hD.2.2.2.1 j hj).2.2.2.1
      unfold prcN
      split <;> omega
    have hpr := x_price hS hS.b hX2 hD hu hj ht
    rw [show (if (R 12 (6 * u + j)).testBit t then 0 else R 5 j) = prcN R u j t from rfl] at hpr
    generalize prcN R u j t = pc at hpr s3 hpl
    have hqu := hv u (by omega)
    have hqj := hv j (by omega)
    have lqu := hle u
    have lqj := hle j
    refine PW.iload rfl dX5_lowerCosts_3 ?_
    refine PW.aload_n rfl rfl dX5_lowerCosts_5 ?_
    refine PW.gV hS.1 (by decide) rfl hS.2.1 fX5_58 dX5_lowerCosts_6 ?_
    refine PW.gI hS.1 (by have := hS.b; omega) (skR0 hS.b) (hX2.1) fX5_206 dX5_lowerCosts_9 ?_
    refine PW.icmp_geN 124 (by decide) (by first | omega | (split <;> omega)) (by first | omega | (split <;> omega)) dX5_lowerCosts_12 (fun hc12 => by exfalso; omega) (fun hc12 => ?_)
    refine PW.aload_n rfl rfl dX5_lowerCosts_15 ?_
    refine PW.gV hS.1 (by decide) rfl hS.2.1 fX5_58 dX5_lowerCosts_16 ?_
    refine PW.iload_n rfl rfl dX5_lowerCosts_19 ?_
    refine PW.iload rfl dX5_lowerCosts_20 ?_
    refine PW.iload_n rfl rfl dX5_lowerCosts_22 ?_
    refine PW.cV (ci := 2) (j := 0) _ hS.1 (by have := hS.b; omega) (skR0 hS.b) kX5_163 (x_opens hS hS.b hX2 hL2 hD hu hj ht) rfl rfl (Nat.le_of_ble_eq_true rfl) rfl ⟨by decide, by decide⟩ ⟨Nat.zero_le _, Nat.zero_le _⟩ dX5_lowerCosts_23 ?_
    refine PW.if_eqB 118 (by decide) dX5_lowerCosts_26 (fun hc26 => ?_) (fun hc26 => ?_)
    · refine PW.iincN rfl (by decide) dX5_lowerCosts_118 (?_ : PW _ _ _ _ [(0, _), (1, _), (2, _), (3, _), (4, _), (5, _), (6, _)] _ _ _)
      refine PW.goto 3 (by decide) dX5_lowerCosts_121 ?_
      refine PW.drop _ (fun r h => List.mem_of_mem_take (i := 7) h) ?_
      first | exact hno hc26 m hS hAg hv | exact hyes hc26 _ (s1 hc63) _ hS (hAg.tr (Ag.wI (fun h => h rfl))) hw117 | exact hyes hc26 _ (s2 hc63 (Or.inl ⟨huA.mp hc32, hjB.mp hc39⟩)) _ hS (hAg.tr (Ag.wI (fun h => h rfl))) hw117 | exact hyes hc26 _ (s2 hc63 (Or.inr ⟨huB.mp hc45, hjA.mp hc52⟩)) _ hS (hAg.tr (Ag.wI (fun h => h rfl))) hw117 | (have hnf : ¬ ((u = A ∧ j = B) ∨ (u = B ∧ j = A)) := by (rintro (⟨h1, h2⟩ | ⟨h1, h2⟩) <;> first | exact hc32 (huA.mpr h1) | exact hc39 (hjB.mpr h2) | exact hc45 (huB.mpr h1) | exact hc52 (hjA.mpr h2))); exact hyes hc26 _ (s3 hc63 hnf) _ hS (hAg.tr (Ag.wI (fun h => h rfl))) hw117
    · refine PW.iload_n rfl rfl dX5_lowerCosts_29 ?_
      refine PW.iload rfl dX5_lowerCosts_30 ?_
      refine PW.icmp_ne 42 (by decide) dX5_lowerCosts_32 (fun hc32 => ?_) (fun hc32 => ?_)
      · refine PW.iload_n rfl rfl dX5_lowerCosts_42 ?_
        refine PW.iload rfl dX5_lowerCosts_43 ?_
        refine PW.icmp_ne 59 (by decide) dX5_lowerCosts_45 (fun hc45 => ?_) (fun hc45 => ?_)
        · refine PW.iconst (v := nI 0) (by decide) dX5_lowerCosts_59 ?_
          refine PW.istore (by decide) dX5_lowerCosts_60 (?_ : PW _ _ _ _ [(0, _), (1, _), (2, _), (3, _), (4, _), (5, _), (6, _), (7, _)] _ _ _)
          refine PW.iload_n rfl rfl dX5_lowerCosts_62 ?_
          refine PW.if_neB 70 (by decide) dX5_lowerCosts_63 (fun hc63 => ?_) (fun hc63 => ?_)
          · refine PW.iload rfl dX5_lowerCosts_70 ?_
            refine PW.if_eqN 79 (by decide) (by decide) dX5_lowerCosts_72 (fun _ => ?_) (fun h => absurd h (by decide))
            refine PW.aload_n rfl rfl dX5_lowerCosts_79 ?_
            refine PW.gV hS.1 (by decide) rfl hS.2.1 fX5_58 dX5_lowerCosts_80 ?_
            refine PW.iload_n rfl rfl dX5_lowerCosts_83 ?_
            refine PW.iload rfl dX5_lowerCosts_84 ?_
            refine PW.iload_n rfl rfl dX5_lowerCosts_86 ?_
            refine PW.cV (ci := 2) (j := 0) _ hS.1 (by have := hS.b; omega) (skR0 hS.b) kX5_173 (hpr) rfl rfl (Nat.le_of_ble_eq_true rfl) rfl ⟨by decide, by decide⟩ ⟨Nat.zero_le _, Nat.zero_le _⟩ dX5_lowerCosts_87 ?_
            refine PW.istore (by decide) dX5_lowerCosts_90 (?_ : PW _ _ _ _ [(0, _), (1, _), (2, _), (3, _), (4, _), (5, _), (6, _), (7, _), (8, _)] _ _ _)
            refine PW.aload_n rfl rfl dX5_lowerCosts_92 ?_
            refine PW.gR hS.1 (by decide) rfl fX5_45 dX5_lowerCosts_93 ?_
            refine PW.iload rfl dX5_lowerCosts_96 ?_
            refine PW.aload_n rfl rfl dX5_lowerCosts_98 ?_
            refine PW.gR hS.1 (by decide) rfl fX5_45 dX5_lowerCosts_99 ?_
            refine PW.iload rfl dX5_lowerCosts_102 ?_
            refine PW.aI hS.1 (by decide) rfl (by exact rfl) ⟨by omega, by decide⟩ (hqj) dX5_lowerCosts_104 ?_
            refine PW.aload_n rfl rfl dX5_lowerCosts_105 ?_
            refine PW.gR hS.1 (by decide) rfl fX5_45 dX5_lowerCosts_106 ?_
            refine PW.iload_n rfl rfl dX5_lowerCosts_109 ?_
            refine PW.aI hS.1 (by decide) rfl (by exact rfl) ⟨by omega, by decide⟩ (hqu) dX5_lowerCosts_110 ?_
            refine PW.iload rfl dX5_lowerCosts_111 ?_
            refine PW.iaddN dX5_lowerCosts_113 ?_
            refine PW.mminN kX5_272 ⟨by decide, by decide⟩ ⟨Nat.zero_le _, Nat.zero_le _⟩ (Nat.le_of_ble_eq_true rfl) (by first | omega | (split <;> omega)) (by first | omega | (split <;> omega)) dX5_lowerCosts_114 ?_
            refine PW.uI hS (by decide) rfl (by exact rfl) ⟨by omega, by decide⟩ dX5_lowerCosts_117 (fun hS hw117 => ?_)
            refine PW.iincN rfl (by decide) dX5_lowerCosts_118 (?_ : PW _ _ _ _ [(0, _), (1, _), (2, _), (3, _), (4, _), (5, _), (6, _), (7, _), (8, _)] _ _ _)
            refine PW.goto 3 (by decide) dX5_lowerCosts_121 ?_
            refine PW.drop _ (fun r h => List.mem_of_mem_take (i := 7) h) ?_
            first | exact hno hc26 m hS hAg hv | exact hyes hc26 _ (s1 hc63) _ hS (hAg.tr (Ag.wI (fun h => h rfl))) hw117 | exact hyes hc26 _ (s2 hc63 (Or.inl ⟨huA.mp hc32, hjB.mp hc39⟩)) _ hS (hAg.tr (Ag.wI (fun h => h rfl))) hw117 | exact hyes hc26 _ (s2 hc63 (Or.inr ⟨huB.mp hc45, hjA.mp hc52⟩)) _ hS (hAg.tr (Ag.wI (fun h => h rfl))) hw117 | (have hnf : ¬ ((u = A ∧ j = B) ∨ (u = B ∧ j = A)) := by (rintro (⟨h1, h2⟩ | ⟨h1, h2⟩) <;> first | exact hc32 (huA.mpr h1) | exact hc39 (hjB.mpr h2) | exact hc45 (huB.mpr h1) | exact hc52 (hjA.mpr h2))); exact hyes hc26 _ (s3 hc63 hnf) _ hS (hAg.tr (Ag.wI (fun h => h rfl))) hw117
          · refine PW.iconst (v := nI 1) (by decide) dX5_lowerCosts_66 ?_
            refine PW.goto 90 (by decide) dX5_lowerCosts_67 ?_
            refine PW.istore (by decide) dX5_lowerCosts_90 (?_ : PW _ _ _ _ [(0, _), (1, _), (2, _), (3, _), (4, _), (5, _), (6, _), (7, _), (8, _)] _ _ _)
            refine PW.aload_n rfl rfl dX5_lowerCosts_92 ?_
            refine PW.gR hS.1 (by decide) rfl fX5_45 dX5_lowerCosts_93 ?_
            refine PW.iload rfl dX5_lowerCosts_96 ?_
            refine PW.aload_n rfl rfl dX5_lowerCosts_98 ?_
            refine PW.gR hS.1 (by decide) rfl fX5_45 dX5_lowerCosts_99 ?_
            refine PW.iload rfl dX5_lowerCosts_102 ?_
            refine PW.aI hS.1 (by decide) rfl (by exact rfl) ⟨by omega, by decide⟩ (hqj) dX5_lowerCosts_104 ?_
            refine PW.aload_n rfl rfl dX5_lowerCosts_105 ?_
            refine PW.gR hS.1 (by decide) rfl fX5_45 dX5_lowerCosts_106 ?_
            refine PW.iload_n rfl rfl dX5_lowerCosts_109 ?_
            refine PW.aI hS.1 (by decide) rfl (by exact rfl) ⟨by omega, by decide⟩ (hqu) dX5_lowerCosts_110 ?_
            refine PW.iload rfl dX5_lowerCosts_111 ?_
            refine PW.iaddN dX5_lowerCosts_113 ?_
            refine PW.mminN kX5_272 ⟨by decide, by decide⟩ ⟨Nat.zero_le _, Nat.zero_le _⟩ (Nat.le_of_ble_eq_true rfl) (by first | omega | (split <;> omega)) (by first | omega | (split <;> omega)) dX5_lowerCosts_114 ?_
            refine PW.uI hS (by decide) rfl (by exact rfl) ⟨by omega, by decide⟩ dX5_lowerCosts_117 (fun hS hw117 => ?_)
            refine PW.iincN rfl (by decide) dX5_lowerCosts_118 (?_ : PW _ _ _ _ [(0, _), (1, _), (2, _), (3, _), (4, _), (5, _), (6, _), (7, _), (8, _)] _ _ _)
            refine PW.goto 3 (by decide) dX5_lowerCosts_121 ?_
            refine PW.drop _ (fun r h => List.mem_of_mem_take (i := 7) h) ?_
            first | exact hno hc26 m hS hAg hv | exact hyes hc26 _ (s1 hc63) _ hS (hAg.tr (Ag.wI (fun h => h rfl))) hw117 | exact hyes hc26 _ (s2 hc63 (Or.inl ⟨huA.mp hc32, hjB.mp hc39⟩)) _ hS (hAg.tr (Ag.wI (fun h => h rfl))) hw117 | exact hyes hc26 _ (s2 hc63 (Or.inr ⟨huB.mp hc45, hjA.mp hc52⟩)) _ hS (hAg.tr (Ag.wI (fun h => h rfl))) hw117 | (have hnf : ¬ ((u = A ∧ j = B) ∨ (u = B ∧ j = A)) := by (rintro (⟨h1, h2⟩ | ⟨h1, h2⟩) <;> first | exact hc32 (huA.mpr h1) | exact hc39 (hjB.mpr h2) | exact hc45 (huB.mpr h1) | exact hc52 (hjA.mpr h2))); exact hyes hc26 _ (s3 hc63 hnf) _ hS (hAg.tr (Ag.wI (fun h => h rfl))) hw117
        · refine PW.iload rfl dX5_lowerCosts_48 ?_
          refine PW.iload rfl dX5_lowerCosts_50 ?_
          refine PW.icmp_ne 59 (by decide) dX5_lowerCosts_52 (fun hc52 => ?_) (fun hc52 => ?_)
          · refine PW.iconst (v := nI 0) (by decide) dX5_lowerCosts_59 ?_
            refine PW.istore (by decide) dX5_lowerCosts_60 (?_ : PW _ _ _ _ [(0, _), (1, _), (2, _), (3, _), (4, _), (5, _), (6, _), (7, _)] _ _ _)
            refine PW.iload_n rfl rfl dX5_lowerCosts_62 ?_
            refine PW.if_neB 70 (by decide) dX5_lowerCosts_63 (fun hc63 => ?_) (fun hc63 => ?_)
            · refine PW.iload rfl dX5_lowerCosts_70 ?_
              refine PW.if_eqN 79 (by decide) (by decide) dX5_lowerCosts_72 (fun _ => ?_) (fun h => absurd h (by decide))
              refine PW.aload_n rfl rfl dX5_lowerCosts_79 ?_
              refine PW.gV hS.1 (by decide) rfl hS.2.1 fX5_58 dX5_lowerCosts_80 ?_
              refine PW.iload_n rfl rfl dX5_lowerCosts_83 ?_
              refine PW.iload rfl dX5_lowerCosts_84 ?_
              refine PW.iload_n rfl rfl dX5_lowerCosts_86 ?_
              refine PW.cV (ci := 2) (j := 0) _ hS.1 (by have := hS.b; omega) (skR0 hS.b) kX5_173 (hpr) rfl rfl (Nat.le_of_ble_eq_true rfl) rfl ⟨by decide, by decide⟩ ⟨Nat.zero_le _, Nat.zero_le _⟩ dX5_lowerCosts_87 ?_
              refine PW.istore (by decide) dX5_lowerCosts_90 (?_ : PW _ _ _ _ [(0, _), (1, _), (2, _), (3, _), (4, _), (5, _), (6, _), (7, _), (8, _)] _ _ _)
              refine PW.aload_n rfl rfl dX5_lowerCosts_92 ?_
              refine PW.gR hS.1 (by decide) rfl fX5_45 dX5_lowerCosts_93 ?_
              refine PW.iload rfl dX5_lowerCosts_96 ?_
              refine PW.aload_n rfl rfl dX5_lowerCosts_98 ?_
              refine PW.gR hS.1 (by decide) rfl fX5_45 dX5_lowerCosts_99 ?_
              refine PW.iload rfl dX5_lowerCosts_102 ?_
              refine PW.aI hS.1 (by decide) rfl (by exact rfl) ⟨by omega, by decide⟩ (hqj) dX5_lowerCosts_104 ?_
              refine PW.aload_n rfl rfl dX5_lowerCosts_105 ?_
              refine PW.gR hS.1 (by decide) rfl fX5_45 dX5_lowerCosts_106 ?_
              refine PW.iload_n rfl rfl dX5_lowerCosts_109 ?_
              refine PW.aI hS.1 (by decide) rfl (by exact rfl) ⟨by omega, by decide⟩ (hqu) dX5_lowerCosts_110 ?_
              refine PW.iload rfl dX5_lowerCosts_111 ?_
              refine PW.iaddN dX5_lowerCosts_113 ?_
              refine PW.mminN kX5_272 ⟨by decide, by decide⟩ ⟨Nat.zero_le _, Nat.zero_le _⟩ (Nat.le_of_ble_eq_true rfl) (by first | omega | (split <;> omega)) (by first | omega | (split <;> omega)) dX5_lowerCosts_114 ?_
              refine PW.uI hS (by decide) rfl (by exact rfl) ⟨by omega, by decide⟩ dX5_lowerCosts_117 (fun hS hw117 => ?_)
              refine PW.iincN rfl (by decide) dX5_lowerCosts_118 (?_ : PW _ _ _ _ [(0, _), (1, _), (2, _), (3, _), (4, _), (5, _), (6, _), (7, _), (8, _)] _ _ _)
              refine PW.goto 3 (by decide) dX5_lowerCosts_121 ?_
              refine PW.drop _ (fun r h => List.mem_of_mem_take (i := 7) h) ?_
              first | exact hno hc26 m hS hAg hv | exact hyes hc26 _ (s1 hc63) _ hS (hAg.tr (Ag.wI (fun h => h rfl))) hw117 | exact hyes hc26 _ (s2 hc63 (Or.inl ⟨huA.mp hc32, hjB.mp hc39⟩)) _ hS (hAg.tr (Ag.wI (fun h => h rfl))) hw117 | exact hyes hc26 _ (s2 hc63 (Or.inr ⟨huB.mp hc45, hjA.mp hc52⟩)) _ hS (hAg.tr (Ag.wI (fun h => h rfl))) hw117 | (have hnf : ¬ ((u = A ∧ j = B) ∨ (u = B ∧ j = A)) := by (rintro (⟨h1, h2⟩ | ⟨h1, h2⟩) <;> first | exact hc32 (huA.mpr h1) | exact hc39 (hjB.mpr h2) | exact hc45 (huB.mpr h1) | exact hc52 (hjA.mpr h2))); exact hyes hc26 _ (s3 hc63 hnf) _ hS (hAg.tr (Ag.wI (fun h => h rfl))) hw117
            · refine PW.iconst (v := nI 1) (by decide) dX5_lowerCosts_66 ?_
              refine PW.goto 90 (by decide) dX5_lowerCosts_67 ?_
              refine PW.istore (by decide) dX5_lowerCosts_90 (?_ : PW _ _ _ _ [(0, _), (1, _), (2, _), (3, _), (4, _), (5, _), (6, _), (7, _), (8, _)] _ _ _)
              refine PW.aload_n rfl rfl dX5_lowerCosts_92 ?_
              refine PW.gR hS.1 (by decide) rfl fX5_45 dX5_lowerCosts_93 ?_
              refine PW.iload rfl dX5_lowerCosts_96 ?_
              refine PW.aload_n rfl rfl dX5_lowerCosts_98 ?_
              refine PW.gR hS.1 (by decide) rfl fX5_45 dX5_lowerCosts_99 ?_
              refine PW.iload rfl dX5_lowerCosts_102 ?_
              refine PW.aI hS.1 (by decide) rfl (by exact rfl) ⟨by omega, by decide⟩ (hqj) dX5_lowerCosts_104 ?_
              refine PW.aload_n rfl rfl dX5_lowerCosts_105 ?_
              refine PW.gR hS.1 (by decide) rfl fX5_45 dX5_lowerCosts_106 ?_
              refine PW.iload_n rfl rfl dX5_lowerCosts_109 ?_
              refine PW.aI hS.1 (by decide) rfl (by exact rfl) ⟨by omega, by decide⟩ (hqu) dX5_lowerCosts_110 ?_
              refine PW.iload rfl dX5_lowerCosts_111 ?_
              refine PW.iaddN dX5_lowerCosts_113 ?_
              refine PW.mminN kX5_272 ⟨by decide, by decide⟩ ⟨Nat.zero_le _, Nat.zero_le _⟩ (Nat.le_of_ble_eq_true rfl) (by first | omega | (split <;> omega)) (by first | omega | (split <;> omega)) dX5_lowerCosts_114 ?_
              refine PW.uI hS (by decide) rfl (by exact rfl) ⟨by omega, by decide⟩ dX5_lowerCosts_117 (fun hS hw117 => ?_)
              refine PW.iincN rfl (by decide) dX5_lowerCosts_118 (?_ : PW _ _ _ _ [(0, _), (1, _), (2, _), (3, _), (4, _), (5, _), (6, _), (7, _), (8, _)] _ _ _)
              refine PW.goto 3 (by decide) dX5_lowerCosts_121 ?_
              refine PW.drop _ (fun r h => List.mem_of_mem_take (i := 7) h) ?_
              first | exact hno hc26 m hS hAg hv | exact hyes hc26 _ (s1 hc63) _ hS (hAg.tr (Ag.wI (fun h => h rfl))) hw117 | exact hyes hc26 _ (s2 hc63 (Or.inl ⟨huA.mp hc32, hjB.mp hc39⟩)) _ hS (hAg.tr (Ag.wI (fun h => h rfl))) hw117 | exact hyes hc26 _ (s2 hc63 (Or.inr ⟨huB.mp hc45, hjA.mp hc52⟩)) _ hS (hAg.tr (Ag.wI (fun h => h rfl))) hw117 | (have hnf : ¬ ((u = A ∧ j = B) ∨ (u = B ∧ j = A)) := by (rintro (⟨h1, h2⟩ | ⟨h1, h2⟩) <;> first | exact hc32 (huA.mpr h1) | exact hc39 (hjB.mpr h2) | exact hc45 (huB.mpr h1) | exact hc52 (hjA.mpr h2))); exact hyes hc26 _ (s3 hc63 hnf) _ hS (hAg.tr (Ag.wI (fun h => h rfl))) hw117
          · refine PW.iconst (v := nI 1) (by decide) dX5_lowerCosts_55 ?_
            refine PW.goto 60 (by decide) dX5_lowerCosts_56 ?_
            refine PW.istore (by decide) dX5_lowerCosts_60 (?_ : PW _ _ _ _ [(0, _), (1, _), (2, _), (3, _), (4, _), (5, _), (6, _), (7, _)] _ _ _)
            refine PW.iload_n rfl rfl dX5_lowerCosts_62 ?_
            refine PW.if_neB 70 (by decide) dX5_lowerCosts_63 (fun hc63 => ?_) (fun hc63 => ?_)
            · refine PW.iload rfl dX5_lowerCosts_70 ?_
              refine PW.if_eqN 79 (by decide) (by decide) dX5_lowerCosts_72 (fun h => absurd h (by decide)) (fun _ => ?_)
              refine PW.iconst (v := nI 0) (by decide) dX5_lowerCosts_75 ?_
              refine PW.goto 90 (by decide) dX5_lowerCosts_76 ?_
              refine PW.istore (by decide) dX5_lowerCosts_90 (?_ : PW _ _ _ _ [(0, _), (1, _), (2, _), (3, _), (4, _), (5, _), (6, _), (7, _), (8, _)] _ _ _)
              refine PW.aload_n rfl rfl dX5_lowerCosts_92 ?_
              refine PW.gR hS.1 (by decide) rfl fX5_45 dX5_lowerCosts_93 ?_
              refine PW.iload rfl dX5_lowerCosts_96 ?_
              refine PW.aload_n rfl rfl dX5_lowerCosts_98 ?_
              refine PW.gR hS.1 (by decide) rfl fX5_45 dX5_lowerCosts_99 ?_
              refine PW.iload rfl dX5_lowerCosts_102 ?_
              refine PW.aI hS.1 (by decide) rfl (by exact rfl) ⟨by omega, by decide⟩ (hqj) dX5_lowerCosts_104 ?_
              refine PW.aload_n rfl rfl dX5_lowerCosts_105 ?_
              refine PW.gR hS.1 (by decide) rfl fX5_45 dX5_lowerCosts_106 ?_
              refine PW.iload_n rfl rfl dX5_lowerCosts_109 ?_
              refine PW.aI hS.1 (by decide) rfl (by exact rfl) ⟨by omega, by decide⟩ (hqu) dX5_lowerCosts_110 ?_
              refine PW.iload rfl dX5_lowerCosts_111 ?_
              refine PW.iaddN dX5_lowerCosts_113 ?_
              refine PW.mminN kX5_272 ⟨by decide, by decide⟩ ⟨Nat.zero_le _, Nat.zero_le _⟩ (Nat.le_of_ble_eq_true rfl) (by first | omega | (split <;> omega)) (by first | omega | (split <;> omega)) dX5_lowerCosts_114 ?_
              refine PW.uI hS (by decide) rfl (by exact rfl) ⟨by omega, by decide⟩ dX5_lowerCosts_117 (fun hS hw117 => ?_)
              refine PW.iincN rfl (by decide) dX5_lowerCosts_118 (?_ : PW _ _ _ _ [(0, _), (1, _), (2, _), (3, _), (4, _), (5, _), (6, _), (7, _), (8, _)] _ _ _)
              refine PW.goto 3 (by decide) dX5_lowerCosts_121 ?_
              refine PW.drop _ (fun r h => List.mem_of_mem_take (i := 7) h) ?_
              first | exact hno hc26 m hS hAg hv | exact hyes hc26 _ (s1 hc63) _ hS (hAg.tr (Ag.wI (fun h => h rfl))) hw117 | exact hyes hc26 _ (s2 hc63 (Or.inl ⟨huA.mp hc32, hjB.mp hc39⟩)) _ hS (hAg.tr (Ag.wI (fun h => h rfl))) hw117 | exact hyes hc26 _ (s2 hc63 (Or.inr ⟨huB.mp hc45, hjA.mp hc52⟩)) _ hS (hAg.tr (Ag.wI (fun h => h rfl))) hw117 | (have hnf : ¬ ((u = A ∧ j = B) ∨ (u = B ∧ j = A)) := by (rintro (⟨h1, h2⟩ | ⟨h1, h2⟩) <;> first | exact hc32 (huA.mpr h1) | exact hc39 (hjB.mpr h2) | exact hc45 (huB.mpr h1) | exact hc52 (hjA.mpr h2))); exact hyes hc26 _ (s3 hc63 hnf) _ hS (hAg.tr (Ag.wI (fun h => h rfl))) hw117
            · refine PW.iconst (v := nI 1) (by decide) dX5_lowerCosts_66 ?_
              refine PW.goto 90 (by decide) dX5_lowerCosts_67 ?_
              refine PW.istore (by decide) dX5_lowerCosts_90 (?_ : PW _ _ _ _ [(0, _), (1, _), (2, _), (3, _), (4, _), (5, _), (6, _), (7, _), (8, _)] _ _ _)
              refine PW.aload_n rfl rfl dX5_lowerCosts_92 ?_
              refine PW.gR hS.1 (by decide) rfl fX5_45 dX5_lowerCosts_93 ?_
              refine PW.iload rfl dX5_lowerCosts_96 ?_
              refine PW.aload_n rfl rfl dX5_lowerCosts_98 ?_
              refine PW.gR hS.1 (by decide) rfl fX5_45 dX5_lowerCosts_99 ?_
              refine PW.iload rfl dX5_lowerCosts_102 ?_
              refine PW.aI hS.1 (by decide) rfl (by exact rfl) ⟨by omega, by decide⟩ (hqj) dX5_lowerCosts_104 ?_
              refine PW.aload_n rfl rfl dX5_lowerCosts_105 ?_
              refine PW.gR hS.1 (by decide) rfl fX5_45 dX5_lowerCosts_106 ?_
              refine PW.iload_n rfl rfl dX5_lowerCosts_109 ?_
              refine PW.aI hS.1 (by decide) rfl (by exact rfl) ⟨by omega, by decide⟩ (hqu) dX5_lowerCosts_110 ?_
              refine PW.iload rfl dX5_lowerCosts_111 ?_
              refine PW.iaddN dX5_lowerCosts_113 ?_
              refine PW.mminN kX5_272 ⟨by decide, by decide⟩ ⟨Nat.zero_le _, Nat.zero_le _⟩ (Nat.le_of_ble_eq_true rfl) (by first | omega | (split <;> omega)) (by first | omega | (split <;> omega)) dX5_lowerCosts_114 ?_
              refine PW.uI hS (by decide) rfl (by exact rfl) ⟨by omega, by decide⟩ dX5_lowerCosts_117 (fun hS hw117 => ?_)
              refine PW.iincN rfl (by decide) dX5_lowerCosts_118 (?_ : PW _ _ _ _ [(0, _), (1, _), (2, _), (3, _), (4, _), (5, _), (6, _), (7, _), (8, _)] _ _ _)
              refine PW.goto 3 (by decide) dX5_lowerCosts_121 ?_
              refine PW.drop _ (fun r h => List.mem_of_mem_take (i := 7) h) ?_
              first | exact hno hc26 m hS hAg hv | exact hyes hc26 _ (s1 hc63) _ hS (hAg.tr (Ag.wI (fun h => h rfl))) hw117 | exact hyes hc26 _ (s2 hc63 (Or.inl ⟨huA.mp hc32, hjB.mp hc39⟩)) _ hS (hAg.tr (Ag.wI (fun h => h rfl))) hw117 | exact hyes hc26 _ (s2 hc63 (Or.inr ⟨huB.mp hc45, hjA.mp hc52⟩)) _ hS (hAg.tr (Ag.wI (fun h => h rfl))) hw117 | (have hnf : ¬ ((u = A ∧ j = B) ∨ (u = B ∧ j = A)) := by (rintro (⟨h1, h2⟩ | ⟨h1, h2⟩) <;> first | exact hc32 (huA.mpr h1) | exact hc39 (hjB.mpr h2) | exact hc45 (huB.mpr h1) | exact hc52 (hjA.mpr h2))); exact hyes hc26 _ (s3 hc63 hnf) _ hS (hAg.tr (Ag.wI (fun h => h rfl))) hw117
      · refine PW.iload rfl dX5_lowerCosts_35 ?_
        refine PW.iload rfl dX5_lowerCosts_37 ?_
        refine PW.icmp_eq 55 (by decide) dX5_lowerCosts_39 (fun hc39 => ?_) (fun hc39 => ?_)
        · refine PW.iconst (v := nI 1) (by decide) dX5_lowerCosts_55 ?_
          refine PW.goto 60 (by decide) dX5_lowerCosts_56 ?_
          refine PW.istore (by decide) dX5_lowerCosts_60 (?_ : PW _ _ _ _ [(0, _), (1, _), (2, _), (3, _), (4, _), (5, _), (6, _), (7, _)] _ _ _)
          refine PW.iload_n rfl rfl dX5_lowerCosts_62 ?_
          refine PW.if_neB 70 (by decide) dX5_lowerCosts_63 (fun hc63 => ?_) (fun hc63 => ?_)
          · refine PW.iload rfl dX5_lowerCosts_70 ?_
            refine PW.if_eqN 79 (by decide) (by decide) dX5_lowerCosts_72 (fun h => absurd h (by decide)) (fun _ => ?_)
            refine PW.iconst (v := nI 0) (by decide) dX5_lowerCosts_75 ?_
            refine PW.goto 90 (by decide) dX5_lowerCosts_76 ?_
            refine PW.istore (by decide) dX5_lowerCosts_90 (?_ : PW _ _ _ _ [(0, _), (1, _), (2, _), (3, _), (4, _), (5, _), (6, _), (7, _), (8, _)] _ _ _)
            refine PW.aload_n rfl rfl dX5_lowerCosts_92 ?_
            refine PW.gR hS.1 (by decide) rfl fX5_45 dX5_lowerCosts_93 ?_
            refine PW.iload rfl dX5_lowerCosts_96 ?_
            refine PW.aload_n rfl rfl dX5_lowerCosts_98 ?_
            refine PW.gR hS.1 (by decide) rfl fX5_45 dX5_lowerCosts_99 ?_
            refine PW.iload rfl dX5_lowerCosts_102 ?_
            refine PW.aI hS.1 (by decide) rfl (by exact rfl) ⟨by omega, by decide⟩ (hqj) dX5_lowerCosts_104 ?_
            refine PW.aload_n rfl rfl dX5_lowerCosts_105 ?_
            refine PW.gR hS.1 (by decide) rfl fX5_45 dX5_lowerCosts_106 ?_
            refine PW.iload_n rfl rfl dX5_lowerCosts_109 ?_
            refine PW.aI hS.1 (by decide) rfl (by exact rfl) ⟨by omega, by decide⟩ (hqu) dX5_lowerCosts_110 ?_
            refine PW.iload rfl dX5_lowerCosts_111 ?_
            refine PW.iaddN dX5_lowerCosts_113 ?_
            refine PW.mminN kX5_272 ⟨by decide, by decide⟩ ⟨Nat.zero_le _, Nat.zero_le _⟩ (Nat.le_of_ble_eq_true rfl) (by first | omega | (split <;> omega)) (by first | omega | (split <;> omega)) dX5_lowerCosts_114 ?_
            refine PW.uI hS (by decide) rfl (by exact rfl) ⟨by omega, by decide⟩ dX5_lowerCosts_117 (fun hS hw117 => ?_)
            refine PW.iincN rfl (by decide) dX5_lowerCosts_118 (?_ : PW _ _ _ _ [(0, _), (1, _), (2, _), (3, _), (4, _), (5, _), (6, _), (7, _), (8, _)] _ _ _)
            refine PW.goto 3 (by decide) dX5_lowerCosts_121 ?_
            refine PW.drop _ (fun r h => List.mem_of_mem_take (i := 7) h) ?_
            first | exact hno hc26 m hS hAg hv | exact hyes hc26 _ (s1 hc63) _ hS (hAg.tr (Ag.wI (fun h => h rfl))) hw117 | exact hyes hc26 _ (s2 hc63 (Or.inl ⟨huA.mp hc32, hjB.mp hc39⟩)) _ hS (hAg.tr (Ag.wI (fun h => h rfl))) hw117 | exact hyes hc26 _ (s2 hc63 (Or.inr ⟨huB.mp hc45, hjA.mp hc52⟩)) _ hS (hAg.tr (Ag.wI (fun h => h rfl))) hw117 | (have hnf : ¬ ((u = A ∧ j = B) ∨ (u = B ∧ j = A)) := by (rintro (⟨h1, h2⟩ | ⟨h1, h2⟩) <;> first | exact hc32 (huA.mpr h1) | exact hc39 (hjB.mpr h2) | exact hc45 (huB.mpr h1) | exact hc52 (hjA.mpr h2))); exact hyes hc26 _ (s3 hc63 hnf) _ hS (hAg.tr (Ag.wI (fun h => h rfl))) hw117
          · refine PW.iconst (v := nI 1) (by decide) dX5_lowerCosts_66 ?_
            refine PW.goto 90 (by decide) dX5_lowerCosts_67 ?_
            refine PW.istore (by decide) dX5_lowerCosts_90 (?_ : PW _ _ _ _ [(0, _), (1, _), (2, _), (3, _), (4, _), (5, _), (6, _), (7, _), (8, _)] _ _ _)
            refine PW.aload_n rfl rfl dX5_lowerCosts_92 ?_
            refine PW.gR hS.1 (by decide) rfl fX5_45 dX5_lowerCosts_93 ?_
            refine PW.iload rfl dX5_lowerCosts_96 ?_
            refine PW.aload_n rfl rfl dX5_lowerCosts_98 ?_
            refine PW.gR hS.1 (by decide) rfl fX5_45 dX5_lowerCosts_99 ?_
            refine PW.iload rfl dX5_lowerCosts_102 ?_
            refine PW.aI hS.1 (by decide) rfl (by exact rfl) ⟨by omega, by decide⟩ (hqj) dX5_lowerCosts_104 ?_
            refine PW.aload_n rfl rfl dX5_lowerCosts_105 ?_
            refine PW.gR hS.1 (by decide) rfl fX5_45 dX5_lowerCosts_106 ?_
            refine PW.iload_n rfl rfl dX5_lowerCosts_109 ?_
            refine PW.aI hS.1 (by decide) rfl (by exact rfl) ⟨by omega, by decide⟩ (hqu) dX5_lowerCosts_110 ?_
            refine PW.iload rfl dX5_lowerCosts_111 ?_
            refine PW.iaddN dX5_lowerCosts_113 ?_
            refine PW.mminN kX5_272 ⟨by decide, by decide⟩ ⟨Nat.zero_le _, Nat.zero_le _⟩ (Nat.le_of_ble_eq_true rfl) (by first | omega | (split <;> omega)) (by first | omega | (split <;> omega)) dX5_lowerCosts_114 ?_
            refine PW.uI hS (by decide) rfl (by exact rfl) ⟨by omega, by decide⟩ dX5_lowerCosts_117 (fun hS hw117 => ?_)
            refine PW.iincN rfl (by decide) dX5_lowerCosts_118 (?_ : PW _ _ _ _ [(0, _), (1, _), (2, _), (3, _), (4, _), (5, _), (6, _), (7, _), (8, _)] _ _ _)
            refine PW.goto 3 (by decide) dX5_lowerCosts_121 ?_
            refine PW.drop _ (fun r h => List.mem_of_mem_take (i := 7) h) ?_
            first | exact hno hc26 m hS hAg hv | exact hyes hc26 _ (s1 hc63) _ hS (hAg.tr (Ag.wI (fun h => h rfl))) hw117 | exact hyes hc26 _ (s2 hc63 (Or.inl ⟨huA.mp hc32, hjB.mp hc39⟩)) _ hS (hAg.tr (Ag.wI (fun h => h rfl))) hw117 | exact hyes hc26 _ (s2 hc63 (Or.inr ⟨huB.mp hc45, hjA.mp hc52⟩)) _ hS (hAg.tr (Ag.wI (fun h => h rfl))) hw117 | (have hnf : ¬ ((u = A ∧ j = B) ∨ (u = B ∧ j = A)) := by (rintro (⟨h1, h2⟩ | ⟨h1, h2⟩) <;> first | exact hc32 (huA.mpr h1) | exact hc39 (hjB.mpr h2) | exact hc45 (huB.mpr h1) | exact hc52 (hjA.mpr h2))); exact hyes hc26 _ (s3 hc63 hnf) _ hS (hAg.tr (Ag.wI (fun h => h rfl))) hw117
        · refine PW.iload_n rfl rfl dX5_lowerCosts_42 ?_
          refine PW.iload rfl dX5_lowerCosts_43 ?_
          refine PW.icmp_ne 59 (by decide) dX5_lowerCosts_45 (fun hc45 => ?_) (fun hc45 => ?_)
          · refine PW.iconst (v := nI 0) (by decide) dX5_lowerCosts_59 ?_
            refine PW.istore (by decide) dX5_lowerCosts_60 (?_ : PW _ _ _ _ [(0, _), (1, _), (2, _), (3, _), (4, _), (5, _), (6, _), (7, _)] _ _ _)
            refine PW.iload_n rfl rfl dX5_lowerCosts_62 ?_
            refine PW.if_neB 70 (by decide) dX5_lowerCosts_63 (fun hc63 => ?_) (fun hc63 => ?_)
            · refine PW.iload rfl dX5_lowerCosts_70 ?_
              refine PW.if_eqN 79 (by decide) (by decide) dX5_lowerCosts_72 (fun _ => ?_) (fun h => absurd h (by decide))
              refine PW.aload_n rfl rfl dX5_lowerCosts_79 ?_
              refine PW.gV hS.1 (by decide) rfl hS.2.1 fX5_58 dX5_lowerCosts_80 ?_
              refine PW.iload_n rfl rfl dX5_lowerCosts_83 ?_
              refine PW.iload rfl dX5_lowerCosts_84 ?_
              refine PW.iload_n rfl rfl dX5_lowerCosts_86 ?_
              refine PW.cV (ci := 2) (j := 0) _ hS.1 (by have := hS.b; omega) (skR0 hS.b) kX5_173 (hpr) rfl rfl (Nat.le_of_ble_eq_true rfl) rfl ⟨by decide, by decide⟩ ⟨Nat.zero_le _, Nat.zero_le _⟩ dX5_lowerCosts_87 ?_
              refine PW.istore (by decide) dX5_lowerCosts_90 (?_ : PW _ _ _ _ [(0, _), (1, _), (2, _), (3, _), (4, _), (5, _), (6, _), (7, _), (8, _)] _ _ _)
              refine PW.aload_n rfl rfl dX5_lowerCosts_92 ?_
              refine PW.gR hS.1 (by decide) rfl fX5_45 dX5_lowerCosts_93 ?_
              refine PW.iload rfl dX5_lowerCosts_96 ?_
              refine PW.aload_n rfl rfl dX5_lowerCosts_98 ?_
              refine PW.gR hS.1 (by decide) rfl fX5_45 dX5_lowerCosts_99 ?_
              refine PW.iload rfl dX5_lowerCosts_102 ?_
              refine PW.aI hS.1 (by decide) rfl (by exact rfl) ⟨by omega, by decide⟩ (hqj) dX5_lowerCosts_104 ?_
              refine PW.aload_n rfl rfl dX5_lowerCosts_105 ?_
              refine PW.gR hS.1 (by decide) rfl fX5_45 dX5_lowerCosts_106 ?_
              refine PW.iload_n rfl rfl dX5_lowerCosts_109 ?_
              refine PW.aI hS.1 (by decide) rfl (by exact rfl) ⟨by omega, by decide⟩ (hqu) dX5_lowerCosts_110 ?_
              refine PW.iload rfl dX5_lowerCosts_111 ?_
              refine PW.iaddN dX5_lowerCosts_113 ?_
              refine PW.mminN kX5_272 ⟨by decide, by decide⟩ ⟨Nat.zero_le _, Nat.zero_le _⟩ (Nat.le_of_ble_eq_true rfl) (by first | omega | (split <;> omega)) (by first | omega | (split <;> omega)) dX5_lowerCosts_114 ?_
              refine PW.uI hS (by decide) rfl (by exact rfl) ⟨by omega, by decide⟩ dX5_lowerCosts_117 (fun hS hw117 => ?_)
              refine PW.iincN rfl (by decide) dX5_lowerCosts_118 (?_ : PW _ _ _ _ [(0, _), (1, _), (2, _), (3, _), (4, _), (5, _), (6, _), (7, _), (8, _)] _ _ _)
              refine PW.goto 3 (by decide) dX5_lowerCosts_121 ?_
              refine PW.drop _ (fun r h => List.mem_of_mem_take (i := 7) h) ?_
              first | exact hno hc26 m hS hAg hv | exact hyes hc26 _ (s1 hc63) _ hS (hAg.tr (Ag.wI (fun h => h rfl))) hw117 | exact hyes hc26 _ (s2 hc63 (Or.inl ⟨huA.mp hc32, hjB.mp hc39⟩)) _ hS (hAg.tr (Ag.wI (fun h => h rfl))) hw117 | exact hyes hc26 _ (s2 hc63 (Or.inr ⟨huB.mp hc45, hjA.mp hc52⟩)) _ hS (hAg.tr (Ag.wI (fun h => h rfl))) hw117 | (have hnf : ¬ ((u = A ∧ j = B) ∨ (u = B ∧ j = A)) := by (rintro (⟨h1, h2⟩ | ⟨h1, h2⟩) <;> first | exact hc32 (huA.mpr h1) | exact hc39 (hjB.mpr h2) | exact hc45 (huB.mpr h1) | exact hc52 (hjA.mpr h2))); exact hyes hc26 _ (s3 hc63 hnf) _ hS (hAg.tr (Ag.wI (fun h => h rfl))) hw117
            · refine PW.iconst (v := nI 1) (by decide) dX5_lowerCosts_66 ?_
              refine PW.goto 90 (by decide) dX5_lowerCosts_67 ?_
              refine PW.istore (by decide) dX5_lowerCosts_90 (?_ : PW _ _ _ _ [(0, _), (1, _), (2, _), (3, _), (4, _), (5, _), (6, _), (7, _), (8, _)] _ _ _)
              refine PW.aload_n rfl rfl dX5_lowerCosts_92 ?_
              refine PW.gR hS.1 (by decide) rfl fX5_45 dX5_lowerCosts_93 ?_
              refine PW.iload rfl dX5_lowerCosts_96 ?_
              refine PW.aload_n rfl rfl dX5_lowerCosts_98 ?_
              refine PW.gR hS.1 (by decide) rfl fX5_45 dX5_lowerCosts_99 ?_
              refine PW.iload rfl dX5_lowerCosts_102 ?_
              refine PW.aI hS.1 (by decide) rfl (by exact rfl) ⟨by omega, by decide⟩ (hqj) dX5_lowerCosts_104 ?_
              refine PW.aload_n rfl rfl dX5_lowerCosts_105 ?_
              refine PW.gR hS.1 (by decide) rfl fX5_45 dX5_lowerCosts_106 ?_
              refine PW.iload_n rfl rfl dX5_lowerCosts_109 ?_
              refine PW.aI hS.1 (by decide) rfl (by exact rfl) ⟨by omega, by decide⟩ (hqu) dX5_lowerCosts_110 ?_
              refine PW.iload rfl dX5_lowerCosts_111 ?_
              refine PW.iaddN dX5_lowerCosts_113 ?_
              refine PW.mminN kX5_272 ⟨by decide, by decide⟩ ⟨Nat.zero_le _, Nat.zero_le _⟩ (Nat.le_of_ble_eq_true rfl) (by first | omega | (split <;> omega)) (by first | omega | (split <;> omega)) dX5_lowerCosts_114 ?_
              refine PW.uI hS (by decide) rfl (by exact rfl) ⟨by omega, by decide⟩ dX5_lowerCosts_117 (fun hS hw117 => ?_)
              refine PW.iincN rfl (by decide) dX5_lowerCosts_118 (?_ : PW _ _ _ _ [(0, _), (1, _), (2, _), (3, _), (4, _), (5, _), (6, _), (7, _), (8, _)] _ _ _)
              refine PW.goto 3 (by decide) dX5_lowerCosts_121 ?_
              refine PW.drop _ (fun r h => List.mem_of_mem_take (i := 7) h) ?_
              first | exact hno hc26 m hS hAg hv | exact hyes hc26 _ (s1 hc63) _ hS (hAg.tr (Ag.wI (fun h => h rfl))) hw117 | exact hyes hc26 _ (s2 hc63 (Or.inl ⟨huA.mp hc32, hjB.mp hc39⟩)) _ hS (hAg.tr (Ag.wI (fun h => h rfl))) hw117 | exact hyes hc26 _ (s2 hc63 (Or.inr ⟨huB.mp hc45, hjA.mp hc52⟩)) _ hS (hAg.tr (Ag.wI (fun h => h rfl))) hw117 | (have hnf : ¬ ((u = A ∧ j = B) ∨ (u = B ∧ j = A)) := by (rintro (⟨h1, h2⟩ | ⟨h1, h2⟩) <;> first | exact hc32 (huA.mpr h1) | exact hc39 (hjB.mpr h2) | exact hc45 (huB.mpr h1) | exact hc52 (hjA.mpr h2))); exact hyes hc26 _ (s3 hc63 hnf) _ hS (hAg.tr (Ag.wI (fun h => h rfl))) hw117
          · refine PW.iload rfl dX5_lowerCosts_48 ?_
            refine PW.iload rfl dX5_lowerCosts_50 ?_
            refine PW.icmp_ne 59 (by decide) dX5_lowerCosts_52 (fun hc52 => ?_) (fun hc52 => ?_)
            · refine PW.iconst (v := nI 0) (by decide) dX5_lowerCosts_59 ?_
              refine PW.istore (by decide) dX5_lowerCosts_60 (?_ : PW _ _ _ _ [(0, _), (1, _), (2, _), (3, _), (4, _), (5, _), (6, _), (7, _)] _ _ _)
              refine PW.iload_n rfl rfl dX5_lowerCosts_62 ?_
              refine PW.if_neB 70 (by decide) dX5_lowerCosts_63 (fun hc63 => ?_) (fun hc63 => ?_)
              · refine PW.iload rfl dX5_lowerCosts_70 ?_
                refine PW.if_eqN 79 (by decide) (by decide) dX5_lowerCosts_72 (fun _ => ?_) (fun h => absurd h (by decide))
                refine PW.aload_n rfl rfl dX5_lowerCosts_79 ?_
                refine PW.gV hS.1 (by decide) rfl hS.2.1 fX5_58 dX5_lowerCosts_80 ?_
                refine PW.iload_n rfl rfl dX5_lowerCosts_83 ?_
                refine PW.iload rfl dX5_lowerCosts_84 ?_
                refine PW.iload_n rfl rfl dX5_lowerCosts_86 ?_
                refine PW.cV (ci := 2) (j := 0) _ hS.1 (by have := hS.b; omega) (skR0 hS.b) kX5_173 (hpr) rfl rfl (Nat.le_of_ble_eq_true rfl) rfl ⟨by decide, by decide⟩ ⟨Nat.zero_le _, Nat.zero_le _⟩ dX5_lowerCosts_87 ?_
                refine PW.istore (by decide) dX5_lowerCosts_90 (?_ : PW _ _ _ _ [(0, _), (1, _), (2, _), (3, _), (4, _), (5, _), (6, _), (7, _), (8, _)] _ _ _)
                refine PW.aload_n rfl rfl dX5_lowerCosts_92 ?_
                refine PW.gR hS.1 (by decide) rfl fX5_45 dX5_lowerCosts_93 ?_
                refine PW.iload rfl dX5_lowerCosts_96 ?_
                refine PW.aload_n rfl rfl dX5_lowerCosts_98 ?_
                refine PW.gR hS.1 (by decide) rfl fX5_45 dX5_lowerCosts_99 ?_
                refine PW.iload rfl dX5_lowerCosts_102 ?_
                refine PW.aI hS.1 (by decide) rfl (by exact rfl) ⟨by omega, by decide⟩ (hqj) dX5_lowerCosts_104 ?_
                refine PW.aload_n rfl rfl dX5_lowerCosts_105 ?_
                refine PW.gR hS.1 (by decide) rfl fX5_45 dX5_lowerCosts_106 ?_
                refine PW.iload_n rfl rfl dX5_lowerCosts_109 ?_
                refine PW.aI hS.1 (by decide) rfl (by exact rfl) ⟨by omega, by decide⟩ (hqu) dX5_lowerCosts_110 ?_
                refine PW.iload rfl dX5_lowerCosts_111 ?_
                refine PW.iaddN dX5_lowerCosts_113 ?_
                refine PW.mminN kX5_272 ⟨by decide, by decide⟩ ⟨Nat.zero_le _, Nat.zero_le _⟩ (Nat.le_of_ble_eq_true rfl) (by first | omega | (split <;> omega)) (by first | omega | (split <;> omega)) dX5_lowerCosts_114 ?_
                refine PW.uI hS (by decide) rfl (by exact rfl) ⟨by omega, by decide⟩ dX5_lowerCosts_117 (fun hS hw117 => ?_)
                refine PW.iincN rfl (by decide) dX5_lowerCosts_118 (?_ : PW _ _ _ _ [(0, _), (1, _), (2, _), (3, _), (4, _), (5, _), (6, _), (7, _), (8, _)] _ _ _)
                refine PW.goto 3 (by decide) dX5_lowerCosts_121 ?_
                refine PW.drop _ (fun r h => List.mem_of_mem_take (i := 7) h) ?_
                first | exact hno hc26 m hS hAg hv | exact hyes hc26 _ (s1 hc63) _ hS (hAg.tr (Ag.wI (fun h => h rfl))) hw117 | exact hyes hc26 _ (s2 hc63 (Or.inl ⟨huA.mp hc32, hjB.mp hc39⟩)) _ hS (hAg.tr (Ag.wI (fun h => h rfl))) hw117 | exact hyes hc26 _ (s2 hc63 (Or.inr ⟨huB.mp hc45, hjA.mp hc52⟩)) _ hS (hAg.tr (Ag.wI (fun h => h rfl))) hw117 | (have hnf : ¬ ((u = A ∧ j = B) ∨ (u = B ∧ j = A)) := by (rintro (⟨h1, h2⟩ | ⟨h1, h2⟩) <;> first | exact hc32 (huA.mpr h1) | exact hc39 (hjB.mpr h2) | exact hc45 (huB.mpr h1) | exact hc52 (hjA.mpr h2))); exact hyes hc26 _ (s3 hc63 hnf) _ hS (hAg.tr (Ag.wI (fun h => h rfl))) hw117
              · refine PW.iconst (v := nI 1) (by decide) dX5_lowerCosts_66 ?_
                refine PW.goto 90 (by decide) dX5_lowerCosts_67 ?_
                refine PW.istore (by decide) dX5_lowerCosts_90 (?_ : PW _ _ _ _ [(0, _), (1, _), (2, _), (3, _), (4, _), (5, _), (6, _), (7, _), (8, _)] _ _ _)
                refine PW.aload_n rfl rfl dX5_lowerCosts_92 ?_
                refine PW.gR hS.1 (by decide) rfl fX5_45 dX5_lowerCosts_93 ?_
                refine PW.iload rfl dX5_lowerCosts_96 ?_
                refine PW.aload_n rfl rfl dX5_lowerCosts_98 ?_
                refine PW.gR hS.1 (by decide) rfl fX5_45 dX5_lowerCosts_99 ?_
                refine PW.iload rfl dX5_lowerCosts_102 ?_
                refine PW.aI hS.1 (by decide) rfl (by exact rfl) ⟨by omega, by decide⟩ (hqj) dX5_lowerCosts_104 ?_
                refine PW.aload_n rfl rfl dX5_lowerCosts_105 ?_
                refine PW.gR hS.1 (by decide) rfl fX5_45 dX5_lowerCosts_106 ?_
                refine PW.iload_n rfl rfl dX5_lowerCosts_109 ?_
                refine PW.aI hS.1 (by decide) rfl (by exact rfl) ⟨by omega, by decide⟩ (hqu) dX5_lowerCosts_110 ?_
                refine PW.iload rfl dX5_lowerCosts_111 ?_
                refine PW.iaddN dX5_lowerCosts_113 ?_
                refine PW.mminN kX5_272 ⟨by decide, by decide⟩ ⟨Nat.zero_le _, Nat.zero_le _⟩ (Nat.le_of_ble_eq_true rfl) (by first | omega | (split <;> omega)) (by first | omega | (split <;> omega)) dX5_lowerCosts_114 ?_
                refine PW.uI hS (by decide) rfl (by exact rfl) ⟨by omega, by decide⟩ dX5_lowerCosts_117 (fun hS hw117 => ?_)
                refine PW.iincN rfl (by decide) dX5_lowerCosts_118 (?_ : PW _ _ _ _ [(0, _), (1, _), (2, _), (3, _), (4, _), (5, _), (6, _), (7, _), (8, _)] _ _ _)
                refine PW.goto 3 (by decide) dX5_lowerCosts_121 ?_
                refine PW.drop _ (fun r h => List.mem_of_mem_take (i := 7) h) ?_
                first | exact hno hc26 m hS hAg hv | exact hyes hc26 _ (s1 hc63) _ hS (hAg.tr (Ag.wI (fun h => h rfl))) hw117 | exact hyes hc26 _ (s2 hc63 (Or.inl ⟨huA.mp hc32, hjB.mp hc39⟩)) _ hS (hAg.tr (Ag.wI (fun h => h rfl))) hw117 | exact hyes hc26 _ (s2 hc63 (Or.inr ⟨huB.mp hc45, hjA.mp hc52⟩)) _ hS (hAg.tr (Ag.wI (fun h => h rfl))) hw117 | (have hnf : ¬ ((u = A ∧ j = B) ∨ (u = B ∧ j = A)) := by (rintro (⟨h1, h2⟩ | ⟨h1, h2⟩) <;> first | exact hc32 (huA.mpr h1) | exact hc39 (hjB.mpr h2) | exact hc45 (huB.mpr h1) | exact hc52 (hjA.mpr h2))); exact hyes hc26 _ (s3 hc63 hnf) _ hS (hAg.tr (Ag.wI (fun h => h rfl))) hw117
            · refine PW.iconst (v := nI 1) (by decide) dX5_lowerCosts_55 ?_
              refine PW.goto 60 (by decide) dX5_lowerCosts_56 ?_
              refine PW.istore (by decide) dX5_lowerCosts_60 (?_ : PW _ _ _ _ [(0, _), (1, _), (2, _), (3, _), (4, _), (5, _), (6, _), (7, _)] _ _ _)
              refine PW.iload_n rfl rfl dX5_lowerCosts_62 ?_
              refine PW.if_neB 70 (by decide) dX5_lowerCosts_63 (fun hc63 => ?_) (fun hc63 => ?_)
              · refine PW.iload rfl dX5_lowerCosts_70 ?_
                refine PW.if_eqN 79 (by decide) (by decide) dX5_lowerCosts_72 (fun h => absurd h (by decide)) (fun _ => ?_)
                refine PW.iconst (v := nI 0) (by decide) dX5_lowerCosts_75 ?_
                refine PW.goto 90 (by decide) dX5_lowerCosts_76 ?_
                refine PW.istore (by decide) dX5_lowerCosts_90 (?_ : PW _ _ _ _ [(0, _), (1, _), (2, _), (3, _), (4, _), (5, _), (6, _), (7, _), (8, _)] _ _ _)
                refine PW.aload_n rfl rfl dX5_lowerCosts_92 ?_
                refine PW.gR hS.1 (by decide) rfl fX5_45 dX5_lowerCosts_93 ?_
                refine PW.iload rfl dX5_lowerCosts_96 ?_
                refine PW.aload_n rfl rfl dX5_lowerCosts_98 ?_
                refine PW.gR hS.1 (by decide) rfl fX5_45 dX5_lowerCosts_99 ?_
                refine PW.iload rfl dX5_lowerCosts_102 ?_
                refine PW.aI hS.1 (by decide) rfl (by exact rfl) ⟨by omega, by decide⟩ (hqj) dX5_lowerCosts_104 ?_
                refine PW.aload_n rfl rfl dX5_lowerCosts_105 ?_
                refine PW.gR hS.1 (by decide) rfl fX5_45 dX5_lowerCosts_106 ?_
                refine PW.iload_n rfl rfl dX5_lowerCosts_109 ?_
                refine PW.aI hS.1 (by decide) rfl (by exact rfl) ⟨by omega, by decide⟩ (hqu) dX5_lowerCosts_110 ?_
                refine PW.iload rfl dX5_lowerCosts_111 ?_
                refine PW.iaddN dX5_lowerCosts_113 ?_
                refine PW.mminN kX5_272 ⟨by decide, by decide⟩ ⟨Nat.zero_le _, Nat.zero_le _⟩ (Nat.le_of_ble_eq_true rfl) (by first | omega | (split <;> omega)) (by first | omega | (split <;> omega)) dX5_lowerCosts_114 ?_
                refine PW.uI hS (by decide) rfl (by exact rfl) ⟨by omega, by decide⟩ dX5_lowerCosts_117 (fun hS hw117 => ?_)
                refine PW.iincN rfl (by decide) dX5_lowerCosts_118 (?_ : PW _ _ _ _ [(0, _), (1, _), (2, _), (3, _), (4, _), (5, _), (6, _), (7, _), (8, _)] _ _ _)
                refine PW.goto 3 (by decide) dX5_lowerCosts_121 ?_
                refine PW.drop _ (fun r h => List.mem_of_mem_take (i := 7) h) ?_
                first | exact hno hc26 m hS hAg hv | exact hyes hc26 _ (s1 hc63) _ hS (hAg.tr (Ag.wI (fun h => h rfl))) hw117 | exact hyes hc26 _ (s2 hc63 (Or.inl ⟨huA.mp hc32, hjB.mp hc39⟩)) _ hS (hAg.tr (Ag.wI (fun h => h rfl))) hw117 | exact hyes hc26 _ (s2 hc63 (Or.inr ⟨huB.mp hc45, hjA.mp hc52⟩)) _ hS (hAg.tr (Ag.wI (fun h => h rfl))) hw117 | (have hnf : ¬ ((u = A ∧ j = B) ∨ (u = B ∧ j = A)) := by (rintro (⟨h1, h2⟩ | ⟨h1, h2⟩) <;> first | exact hc32 (huA.mpr h1) | exact hc39 (hjB.mpr h2) | exact hc45 (huB.mpr h1) | exact hc52 (hjA.mpr h2))); exact hyes hc26 _ (s3 hc63 hnf) _ hS (hAg.tr (Ag.wI (fun h => h rfl))) hw117
              · refine PW.iconst (v := nI 1) (by decide) dX5_lowerCosts_66 ?_
                refine PW.goto 90 (by decide) dX5_lowerCosts_67 ?_
                refine PW.istore (by decide) dX5_lowerCosts_90 (?_ : PW _ _ _ _ [(0, _), (1, _), (2, _), (3, _), (4, _), (5, _), (6, _), (7, _), (8, _)] _ _ _)
                refine PW.aload_n rfl rfl dX5_lowerCosts_92 ?_
                refine PW.gR hS.1 (by decide) rfl fX5_45 dX5_lowerCosts_93 ?_
                refine PW.iload rfl dX5_lowerCosts_96 ?_
                refine PW.aload_n rfl rfl dX5_lowerCosts_98 ?_
                refine PW.gR hS.1 (by decide) rfl fX5_45 dX5_lowerCosts_99 ?_
                refine PW.iload rfl dX5_lowerCosts_102 ?_
                refine PW.aI hS.1 (by decide) rfl (by exact rfl) ⟨by omega, by decide⟩ (hqj) dX5_lowerCosts_104 ?_
                refine PW.aload_n rfl rfl dX5_lowerCosts_105 ?_
                refine PW.gR hS.1 (by decide) rfl fX5_45 dX5_lowerCosts_106 ?_
                refine PW.iload_n rfl rfl dX5_lowerCosts_109 ?_
                refine PW.aI hS.1 (by decide) rfl (by exact rfl) ⟨by omega, by decide⟩ (hqu) dX5_lowerCosts_110 ?_
                refine PW.iload rfl dX5_lowerCosts_111 ?_
                refine PW.iaddN dX5_lowerCosts_113 ?_
                refine PW.mminN kX5_272 ⟨by decide, by decide⟩ ⟨Nat.zero_le _, Nat.zero_le _⟩ (Nat.le_of_ble_eq_true rfl) (by first | omega | (split <;> omega)) (by first | omega | (split <;> omega)) dX5_lowerCosts_114 ?_
                refine PW.uI hS (by decide) rfl (by exact rfl) ⟨by omega, by decide⟩ dX5_lowerCosts_117 (fun hS hw117 => ?_)
                refine PW.iincN rfl (by decide) dX5_lowerCosts_118 (?_ : PW _ _ _ _ [(0, _), (1, _), (2, _), (3, _), (4, _), (5, _), (6, _), (7, _), (8, _)] _ _ _)
                refine PW.goto 3 (by decide) dX5_lowerCosts_121 ?_
                refine PW.drop _ (fun r h => List.mem_of_mem_take (i := 7) h) ?_
                first | exact hno hc26 m hS hAg hv | exact hyes hc26 _ (s1 hc63) _ hS (hAg.tr (Ag.wI (fun h => h rfl))) hw117 | exact hyes hc26 _ (s2 hc63 (Or.inl ⟨huA.mp hc32, hjB.mp hc39⟩)) _ hS (hAg.tr (Ag.wI (fun h => h rfl))) hw117 | exact hyes hc26 _ (s2 hc63 (Or.inr ⟨huB.mp hc45, hjA.mp hc52⟩)) _ hS (hAg.tr (Ag.wI (fun h => h rfl))) hw117 | (have hnf : ¬ ((u = A ∧ j = B) ∨ (u = B ∧ j = A)) := by (rintro (⟨h1, h2⟩ | ⟨h1, h2⟩) <;> first | exact hc32 (huA.mpr h1) | exact hc39 (hjB.mpr h2) | exact hc45 (huB.mpr h1) | exact hc52 (hjA.mpr h2))); exact hyes hc26 _ (s3 hc63 hnf) _ hS (hAg.tr (Ag.wI (fun h => h rfl))) hw117
  · obtain ⟨hS, hAg, hv⟩ := hI
    have hX2 := hX.ag hAg (fun r h1 h2 => by omega)
    refine PW.iload rfl dX5_lowerCosts_3 ?_
    refine PW.aload_n rfl rfl dX5_lowerCosts_5 ?_
    refine PW.gV hS.1 (by decide) rfl hS.2.1 fX5_58 dX5_lowerCosts_6 ?_
    refine PW.gI hS.1 (by have := hS.b; omega) (skR0 hS.b) (hX2.1) fX5_206 dX5_lowerCosts_9 ?_
    refine PW.icmp_geN 124 (by decide) (by first | omega | (split <;> omega)) (by first | omega | (split <;> omega)) dX5_lowerCosts_12 (fun hc12 => ?_) (fun hc12 => by exfalso; omega)
    refine PW.vret rfl (Nat.le_refl _) (Nat.le_refl _) dX5_lowerCosts_124 ?_
    exact ⟨rfl, hS, hAg, hv⟩
theorem rR_le {E : Nat → Nat → Bool} {st : Nat → Nat → Nat} {f : Nat → Nat} {es : Nat → Nat × Nat} {N : Nat} (z : Nat) : ∀ n, rR E st f es N n z ≤ f z
  | 0 => Nat.le_refl _
  | n + 1 => Nat.le_trans (rS_le z N) (rR_le z n)
def eX (P : Nat) : Nat → Nat × Nat := fun i => (i / P, i % P)
def lstX (R : DR) (t : Nat) (pr : Bool) (A B a k : Nat) : Nat := rR (opE R t) (stN R t pr A B) (f0 a 1000000) (eX (R 0 0)) (R 0 0 * R 0 0) (R 0 0 - 1) k
set_option maxHeartbeats 8000000 in
theorem x_least (hS : St b s sc mem) (hX : XD mem b R) (hL : XL mem b R) (hD : Dat R) (hN : XN mem 13 (R 1 0) w p d) (hw : ∀ t, t < R 1 0 → w t < R 0 0) {t k A B : Nat} {pr : Bool} (ht : t < R 1 0) (hk : k < R 0 0) (hA : A < 6 ∨ A = 9) (hB : B < 6 ∨ B = 9) : Ret 3 0 0 mX5_least [.ref 9, .int (nI t), .int (nI k), .int (bI pr), .int (hI A), .int (hI B)] mem (fun v m1 => v = some (.int (if lstX R (R 13 t) pr A B (w t) k < 1000000 then nI (lstX R (R 13 t) pr A B (w t) k) else -9)) ∧ St b s sc m1 ∧ Ag (fun r => r ≠ 46) mem m1) := by
  have h6 := hD.1
  have hb := hS.b
  have hwt := hw t ht
  have hT := hD.2.1
  have d13 := (hD.2.2.2.2.2.2 t ht).1
  unfold lstX
  refine Ret.of (by decide) (Nat.le_of_ble_eq_true rfl) fun l G => ?_
  show PW _ _ _ _ [(0, _), (1, _), (2, _), (3, _), (4, _), (5, _)] _ _ _
  refine PW.aload_n rfl rfl dX5_least_0 ?_
  refine PW.gR hS.1 (by decide) rfl fX5_45 dX5_least_1 ?_
  refine PW.ldcw cX5_267 dX5_least_4 ?_
  refine PW.dS _ kX5_222 (j_fill hS (by decide) rfl _) rfl rfl (Nat.le_of_ble_eq_true rfl) ⟨by decide, by decide⟩ ⟨Nat.zero_le _, Nat.zero_le _⟩ dX5_least_7 (fun v m1 q => ?_)
  obtain ⟨rfl, hS, hA0, hf⟩ := q
  refine PW.aload_n rfl rfl dX5_least_10 ?_
  refine PW.gR hS.1 (by decide) rfl fX5_45 dX5_least_11 ?_
  refine PW.aload_n rfl rfl dX5_least_14 ?_
  refine PW.gR hS.1 (by decide) rfl fX5_19 dX5_least_15 ?_
  refine PW.gR hS.1 (by decide) rfl fX5_134 dX5_least_18 ?_
  refine PW.iload_n rfl rfl dX5_least_21 ?_
  refine PW.aI hS.1 (by decide) rfl (by exact rfl) ⟨by omega, by decide⟩ ((hA0.iv (r := 14) (by decide) t).trans (hN.1 t ht)) dX5_least_22 ?_
  refine PW.iconst (v := nI 0) (by decide) dX5_least_23 ?_
  refine PW.uI hS (by decide) rfl (by exact rfl) ⟨by omega, by decide⟩ dX5_least_24 (fun hS hw24 => ?_)
  refine PW.iconst (v := nI 1) (by decide) dX5_least_25 ?_
  refine PW.istore (by decide) dX5_least_26 (?_ : PW _ _ _ _ [(0, _), (1, _), (2, _), (3, _), (4, _), (5, _), (6, _)] _ _ _)
  skip
  refine PW.loop (I := fun j m => St b s sc m ∧ Ag (fun r => r ≠ 46) mem m ∧ ∀ z, z < 6 → iv m 46 z = nI (rR (opE R (R 13 t)) (stN R (R 13 t) pr A B) (f0 (w t) 1000000) (eX (R 0 0)) (R 0 0 * R 0 0) j z)) (fun j _ => [(0, .ref 9), (1, .int (nI t)), (2, .int (nI k)), (3, .int (bI pr)), (4, .int (hI A)), (5, .int (hI B)), (6, .int (nI (j + 1)))]) (fun _ m => m) (R 0 0 - 1) (fun j m hj hI ih => ?_) (fun m hI => ?_) _ ⟨hS, hA0.tr (Ag.wI (fun h => h rfl)), fun z hz => ?_⟩
  · obtain ⟨hS, hAg, hv⟩ := hI
    have hX2 := hX.ag hAg (fun r h1 h2 => by omega)
    have er : ∀ z, rR (opE R (R 13 t)) (stN R (R 13 t) pr A B) (f0 (w t) 1000000) (eX (R 0 0)) (R 0 0 * R 0 0) (j + 1) z = rS (opE R (R 13 t)) (stN R (R 13 t) pr A B) (rR (opE R (R 13 t)) (stN R (R 13 t) pr A B) (f0 (w t) 1000000) (eX (R 0 0)) (R 0 0 * R 0 0) j) (eX (R 0 0)) (R 0 0 * R 0 0) z := fun _ => rfl
    have hle : ∀ z, rR (opE R (R 13 t)) (stN R (R 13 t) pr A B) (f0 (w t) 1000000) (eX (R 0 0)) (R 0 0 * R 0 0) j z ≤ 1000000 := fun z => Nat.le_trans (rR_le z j) (by unfold f0; split <;> omega)
    simp only [er] at ih
    generalize rR (opE R (R 13 t)) (stN R (R 13 t) pr A B) (f0 (w t) 1000000) (eX (R 0 0)) (R 0 0 * R 0 0) j = g at hv hle ih
    refine PW.iload rfl dX5_least_28 ?_
    refine PW.aload_n rfl rfl dX5_least_30 ?_
    refine PW.gV hS.1 (by decide) rfl hS.2.1 fX5_58 dX5_least_31 ?_
    refine PW.gI hS.1 (by have := hS.b; omega) (skR0 hS.b) (hX2.1) fX5_206 dX5_least_34 ?_
    refine PW.icmp_geN 87 (by decide) (by first | omega | (split <;> omega)) (by first | omega | (split <;> omega)) dX5_least_37 (fun hc37 => by exfalso; omega) (fun hc37 => ?_)
    refine PW.iconst (v := nI 0) (by decide) dX5_least_40 ?_
    refine PW.istore (by decide) dX5_least_41 (?_ : PW _ _ _ _ [(0, _), (1, _), (2, _), (3, _), (4, _), (5, _), (6, _), (7, _)] _ _ _)
    skip
    refine PW.loop (I := fun i m => St b s sc m ∧ Ag (fun r => r ≠ 46) mem m ∧ ∀ z, z < 6 → iv m 46 z = nI (rS (opE R (R 13 t)) (stN R (R 13 t) pr A B) g (eX (R 0 0)) (R 0 0 * i) z)) (fun i _ => [(0, .ref 9), (1, .int (nI t)), (2, .int (nI k)), (3, .int (bI pr)), (4, .int (hI A)), (5, .int (hI B)), (6, .int (nI (j + 1))), (7, .int (nI i))]) (fun _ m => m) (R 0 0) (fun i m hi hI ih => ?_) (fun m hI => ?_) _ ⟨hS, hAg, hv⟩
    · obtain ⟨hS, hAg, hv⟩ := hI
      have hX2 := hX.ag hAg (fun r h1 h2 => by omega)
      have hL2 := hL.ag hAg (by omega) (by omega)
      have hle2 : ∀ z, rS (opE R (R 13 t)) (stN R (R 13 t) pr A B) g (eX (R 0 0)) (R 0 0 * i) z ≤ 1000000 := fun z => Nat.le_trans (rS_le z _) (hle z)
      have eg : rS (opE R (R 13 t)) (stN R (R 13 t) pr A B) g (eX (R 0 0)) (R 0 0 * (i + 1)) = rS (opE R (R 13 t)) (stN R (R 13 t) pr A B) (rS (opE R (R 13 t)) (stN R (R 13 t) pr A B) g (eX (R 0 0)) (R 0 0 * i)) (fun c => (i, c)) (R 0 0) := by
        rw [Nat.mul_succ, rS_add]
        refine rS_congr _ fun c hc => ?_
        show ((R 0 0 * i + c) / R 0 0, (R 0 0 * i + c) % R 0 0) = (i, c)
        rw [Nat.mul_add_div (by omega), Nat.div_eq_of_lt hc, Nat.mul_add_mod, Nat.mod_eq_of_lt hc, Nat.add_zero]
      refine PW.iload rfl dX5_least_43 ?_
      refine PW.aload_n rfl rfl dX5_least_45 ?_
      refine PW.gV hS.1 (by decide) rfl hS.2.1 fX5_58 dX5_least_46 ?_
      refine PW.gI hS.1 (by have := hS.b; omega) (skR0 hS.b) (hX2.1) fX5_206 dX5_least_49 ?_
      refine PW.icmp_geN 81 (by decide) (by first | omega | (split <;> omega)) (by first | omega | (split <;> omega)) dX5_least_52 (fun hc52 => by exfalso; omega) (fun hc52 => ?_)
      refine PW.aload_n rfl rfl dX5_least_55 ?_
      refine PW.iload rfl dX5_least_56 ?_
      refine PW.aload_n rfl rfl dX5_least_58 ?_
      refine PW.gV hS.1 (by decide) rfl hS.2.1 fX5_58 dX5_least_59 ?_
      refine PW.gR hS.1 (by have := hS.b; omega) (skR13 hS.b) fX5_125 dX5_least_62 ?_
      refine PW.iload_n rfl rfl dX5_least_65 ?_
      refine PW.aI hS.1 (by have := hS.b; omega) (akR17 hS.b) (by exact rfl) ⟨by omega, by decide⟩ ((hX2.2.2.2.2.2.2 t ht).1) dX5_least_66 ?_
      refine PW.iload_n rfl rfl dX5_least_67 ?_
      refine PW.iload rfl dX5_least_68 ?_
      refine PW.iload rfl dX5_least_70 ?_
      refine PW.dV (ci := 5) (j := 0) _ hS.1 (by decide) rfl kX5_268 (x_lowerCosts hS hX2 hL2 hD hi d13 hA hB hle2 hv) rfl rfl (Nat.le_of_ble_eq_true rfl) rfl ⟨by decide, by decide⟩ ⟨Nat.zero_le _, Nat.zero_le _⟩ dX5_least_72 (fun v m1 q => ?_)
      obtain ⟨rfl, hS, hA1, hv1⟩ := q
      refine PW.iincN rfl (by decide) dX5_least_75 (?_ : PW _ _ _ _ [(0, _), (1, _), (2, _), (3, _), (4, _), (5, _), (6, _), (7, _)] _ _ _)
      refine PW.goto 43 (by decide) dX5_least_78 ?_
      exact ih _ ⟨hS, hAg.tr hA1, fun z hz => by rw [eg]; exact hv1 z hz⟩
    · obtain ⟨hS, hAg, hv⟩ := hI
      have hX2 := hX.ag hAg (fun r h1 h2 => by omega)
      refine PW.iload rfl dX5_least_43 ?_
      refine PW.aload_n rfl rfl dX5_least_45 ?_
      refine PW.gV hS.1 (by decide) rfl hS.2.1 fX5_58 dX5_least_46 ?_
      refine PW.gI hS.1 (by have := hS.b; omega) (skR0 hS.b) (hX2.1) fX5_206 dX5_least_49 ?_
      refine PW.icmp_geN 81 (by decide) (by first | omega | (split <;> omega)) (by first | omega | (split <;> omega)) dX5_least_52 (fun hc52 => ?_) (fun hc52 => by exfalso; omega)
      refine PW.iincN rfl (by decide) dX5_least_81 (?_ : PW _ _ _ _ [(0, _), (1, _), (2, _), (3, _), (4, _), (5, _), (6, _), (7, _)] _ _ _)
      refine PW.goto 28 (by decide) dX5_least_84 ?_
      exact PW.drop _ (fun r h => List.mem_of_mem_take (i := 7) h) (ih _ ⟨hS, hAg, hv⟩)
  · obtain ⟨hS, hAg, hv⟩ := hI
    have hX2 := hX.ag hAg (fun r h1 h2 => by omega)
    have hle : rR (opE R (R 13 t)) (stN R (R 13 t) pr A B) (f0 (w t) 1000000) (eX (R 0 0)) (R 0 0 * R 0 0) (R 0 0 - 1) k ≤ 1000000 := Nat.le_trans (rR_le k _) (by unfold f0; split <;> omega)
    have hvk := hv k (by omega)
    generalize rR (opE R (R 13 t)) (stN R (R 13 t) pr A B) (f0 (w t) 1000000) (eX (R 0 0)) (R 0 0 * R 0 0) (R 0 0 - 1) k = q at hvk hle ⊢
    refine PW.iload rfl dX5_least_28 ?_
    refine PW.aload_n rfl rfl dX5_least_30 ?_
    refine PW.gV hS.1 (by decide) rfl hS.2.1 fX5_58 dX5_least_31 ?_
    refine PW.gI hS.1 (by have := hS.b; omega) (skR0 hS.b) (hX2.1) fX5_206 dX5_least_34 ?_
    refine PW.icmp_geN 87 (by decide) (by first | omega | (split <;> omega)) (by first | omega | (split <;> omega)) dX5_least_37 (fun hc37 => ?_) (fun hc37 => by exfalso; omega)
    refine PW.aload_n rfl rfl dX5_least_87 ?_
    refine PW.gR hS.1 (by decide) rfl fX5_45 dX5_least_88 ?_
    refine PW.iload_n rfl rfl dX5_least_91 ?_
    refine PW.aI hS.1 (by decide) rfl (by exact rfl) ⟨by omega, by decide⟩ (hvk) dX5_least_92 ?_
    refine PW.ldcw cX5_267 dX5_least_93 ?_
    have e6 : (1000000 : Int32) = nI 1000000 := rfl
    rw [e6]
    refine PW.icmp_geN 108 (by decide) (by first | omega | (split <;> omega)) (by first | omega | (split <;> omega)) dX5_least_96 (fun hc96 => ?_) (fun hc96 => ?_)
    · refine PW.bipush (v := -9) (by decide) dX5_least_108 ?_
      refine PW.iret rfl (Nat.le_refl _) (Nat.le_refl _) dX5_least_110 ?_
      first | exact ⟨by rw [if_neg (by omega)], hS, hAg⟩ | exact ⟨by rw [if_pos (by omega)], hS, hAg⟩
    · refine PW.aload_n rfl rfl dX5_least_99 ?_
      refine PW.gR hS.1 (by decide) rfl fX5_45 dX5_least_100 ?_
      refine PW.iload_n rfl rfl dX5_least_103 ?_
      refine PW.aI hS.1 (by decide) rfl (by exact rfl) ⟨by omega, by decide⟩ (hvk) dX5_least_104 ?_
      refine PW.goto 110 (by decide) dX5_least_105 ?_
      refine PW.iret rfl (Nat.le_refl _) (Nat.le_refl _) dX5_least_110 ?_
      first | exact ⟨by rw [if_neg (by omega)], hS, hAg⟩ | exact ⟨by rw [if_pos (by omega)], hS, hAg⟩
  · rw [hw24]
    show _ = nI (if z = w t then 0 else 1000000)
    by_cases h : z = w t
    · rw [if_pos h, if_pos h]
    · rw [if_neg h, if_neg h]; exact hf z hz
end WAYX
