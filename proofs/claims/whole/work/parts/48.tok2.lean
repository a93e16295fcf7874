/-! ===== a token read: class and model ===== -/
section XTOK2
variable {b s : Nat} {sc : pw_E} {mem : pw_M} {n : Nat} {f : Nat → Nat}
set_option maxHeartbeats 8000000 in
theorem x_readToken (hS : St b s sc mem) (hX : TX mem n f) (hn : n ≤ 200) (hf : ∀ i, i < n → f i < 256) {q : Nat} (hq : q ≤ n) (h3 : fi mem 10 3 = nI q) : Ret 3 0 0 mX4_readToken [.ref 10] mem (fun v m1 => v = none ∧ St b s sc m1 ∧ Ag (fun r => r ≠ 10) mem m1 ∧ TX m1 n f ∧ XT m1 (tk f n q)) := by
  obtain ⟨g1, g2, g3, g4⟩ := run_spec (p := blk f) (n := n) 200 q (by omega) hq
  unfold tk tkA
  generalize run (blk f) n 200 q = a at g1 g2 g3 g4 ⊢
  refine Ret.of (by decide) (Nat.le_of_ble_eq_true rfl) fun l G => ?_
  show PW _ _ _ _ [(0, _)] _ _ _
  refine PW.loop (I := fun j m => St b s sc m ∧ Ag (fun r => r ≠ 10) mem m ∧ TX m n f ∧ fi m 10 3 = nI (q + j)) (fun j _ => [(0, .ref 10)]) (fun _ m => m) (a - q) (fun j m hj hI ih => ?_) (fun m hI => ?_) _ ⟨hS, Ag.rf, hX, h3⟩
  · obtain ⟨hS, hA, hX, h3⟩ := hI
    have hb := of_decide_eq_true (g3 (q + j) (by omega) (by omega))
    have hx := hX.2 (q + j) (by omega)
    refine PW.aload_n rfl rfl dX4_readToken_0 ?_
    refine PW.gI hS.1 (by decide) rfl (h3) fX4_23 dX4_readToken_1 ?_
    refine PW.aload_n rfl rfl dX4_readToken_4 ?_
    refine PW.gI hS.1 (by decide) rfl (hX.1) fX4_90 dX4_readToken_5 ?_
    refine PW.icmp_geN 38 (by decide) (by first | omega | (split <;> omega)) (by first | omega | (split <;> omega)) dX4_readToken_8 (fun hc8 => by exfalso; omega) (fun hc8 => ?_)
    refine PW.aload_n rfl rfl dX4_readToken_11 ?_
    refine PW.gR hS.1 (by decide) rfl fX4_9 dX4_readToken_12 ?_
    refine PW.aload_n rfl rfl dX4_readToken_15 ?_
    refine PW.gI hS.1 (by decide) rfl (h3) fX4_23 dX4_readToken_16 ?_
    refine PW.aI hS.1 (by decide) rfl (by exact rfl) ⟨by omega, by decide⟩ (hx) dX4_readToken_19 ?_
    refine PW.bipush (v := nI 32) (by decide) dX4_readToken_20 ?_
    refine PW.icmp_neN 38 (by decide) (by first | omega | (split <;> omega)) (by first | omega | (split <;> omega)) dX4_readToken_22 (fun hc22 => by exfalso; omega) (fun hc22 => ?_)
    refine PW.aload_n rfl rfl dX4_readToken_25 ?_
    refine PW.dup rfl dX4_readToken_26 ?_
    refine PW.gI hS.1 (by decide) rfl (h3) fX4_23 dX4_readToken_27 ?_
    refine PW.iconst (v := nI 1) (by decide) dX4_readToken_30 ?_
    refine PW.iaddN dX4_readToken_31 ?_
    refine PW.tI hS (by decide) rfl pX4_23 dX4_readToken_32 (fun hS hw32 => ?_)
    refine PW.goto 0 (by decide) dX4_readToken_35 ?_
    exact ih _ ⟨hS, hA.tr (Ag.wF (fun h => h rfl)), hX.wF (by decide), hw32⟩
  · obtain ⟨hS, hA, hX, h3⟩ := hI
    rw [show q + (a - q) = a by omega] at h3
    by_cases hna : n ≤ a
    · rw [if_pos hna]
      refine PW.aload_n rfl rfl dX4_readToken_0 ?_
      refine PW.gI hS.1 (by decide) rfl (h3) fX4_23 dX4_readToken_1 ?_
      refine PW.aload_n rfl rfl dX4_readToken_4 ?_
      refine PW.gI hS.1 (by decide) rfl (hX.1) fX4_90 dX4_readToken_5 ?_
      refine PW.icmp_geN 38 (by decide) (by first | omega | (split <;> omega)) (by first | omega | (split <;> omega)) dX4_readToken_8 (fun hc8 => ?_) (fun hc8 => by exfalso; omega)
      refine PW.aload_n rfl rfl dX4_readToken_38 ?_
      refine PW.aload_n rfl rfl dX4_readToken_39 ?_
      refine PW.gI hS.1 (by decide) rfl (h3) fX4_23 dX4_readToken_40 ?_
      refine PW.tI hS (by decide) rfl pX4_37 dX4_readToken_43 (fun hS hw43 => ?_)
      refine PW.aload_n rfl rfl dX4_readToken_46 ?_
      refine PW.gI hS.1 (by decide) rfl ((fi_wF_ne (Or.inr (by decide))).trans h3) fX4_23 dX4_readToken_47 ?_
      refine PW.aload_n rfl rfl dX4_readToken_50 ?_
      refine PW.gI hS.1 (by decide) rfl ((fi_wF_ne (Or.inr (by decide))).trans hX.1) fX4_90 dX4_readToken_51 ?_
      refine PW.icmp_ltN 67 (by decide) (by first | omega | (split <;> omega)) (by first | omega | (split <;> omega)) dX4_readToken_54 (fun hc54 => by exfalso; omega) (fun hc54 => ?_)
      refine PW.aload_n rfl rfl dX4_readToken_57 ?_
      refine PW.sipush (v := nI 257) (by decide) dX4_readToken_58 ?_
      refine PW.tI hS (by decide) rfl pX4_30 dX4_readToken_61 (fun hS hw61 => ?_)
      refine PW.goto 112 (by decide) dX4_readToken_64 ?_
      refine PW.vret rfl (Nat.le_refl _) (Nat.le_refl _) dX4_readToken_112 ?_
      exact ⟨rfl, hS, (hA.tr (Ag.wF (fun h => h rfl))).tr (Ag.wF (fun h => h rfl)), (hX.wF (by decide)).wF (by decide), (fi_wF_ne (Or.inr (by decide))).trans ((fi_wF_ne (Or.inr (by decide))).trans h3), hw61, (fi_wF_ne (Or.inr (by decide))).trans hw43, fun h => absurd (show 257 = 256 from h) (by decide)⟩
    · rw [if_neg hna]
      have ha : a < n := by omega
      have hb := of_decide_eq_false (g4 ha)
      have hx := hX.2 a ha
      have hfa := hf a ha
      by_cases hd : dgt f a = true
      · rw [if_pos hd]
        refine PW.aload_n rfl rfl dX4_readToken_0 ?_
        refine PW.gI hS.1 (by decide) rfl (h3) fX4_23 dX4_readToken_1 ?_
        refine PW.aload_n rfl rfl dX4_readToken_4 ?_
        refine PW.gI hS.1 (by decide) rfl (hX.1) fX4_90 dX4_readToken_5 ?_
        refine PW.icmp_geN 38 (by decide) (by first | omega | (split <;> omega)) (by first | omega | (split <;> omega)) dX4_readToken_8 (fun hc8 => by (first | (exfalso; omega) | exact absurd hd (by unfold dgt; rw [hc8]; decide))) (fun hc8 => ?_)
        refine PW.aload_n rfl rfl dX4_readToken_11 ?_
        refine PW.gR hS.1 (by decide) rfl fX4_9 dX4_readToken_12 ?_
        refine PW.aload_n rfl rfl dX4_readToken_15 ?_
        refine PW.gI hS.1 (by decide) rfl (h3) fX4_23 dX4_readToken_16 ?_
        refine PW.aI hS.1 (by decide) rfl (by exact rfl) ⟨by omega, by decide⟩ (hx) dX4_readToken_19 ?_
        refine PW.bipush (v := nI 32) (by decide) dX4_readToken_20 ?_
        refine PW.icmp_neN 38 (by decide) (by first | omega | (split <;> omega)) (by first | omega | (split <;> omega)) dX4_readToken_22 (fun hc22 => ?_) (fun hc22 => by (first | (exfalso; omega) | exact absurd hd (by unfold dgt; rw [hc22]; decide)))
        refine PW.aload_n rfl rfl dX4_readToken_38 ?_
        refine PW.aload_n rfl rfl dX4_readToken_39 ?_
        refine PW.gI hS.1 (by decide) rfl (h3) fX4_23 dX4_readToken_40 ?_
        refine PW.tI hS (by decide) rfl pX4_37 dX4_readToken_43 (fun hS hw43 => ?_)
        refine PW.aload_n rfl rfl dX4_readToken_46 ?_
        refine PW.gI hS.1 (by decide) rfl ((fi_wF_ne (Or.inr (by decide))).trans h3) fX4_23 dX4_readToken_47 ?_
        refine PW.aload_n rfl rfl dX4_readToken_50 ?_
        refine PW.gI hS.1 (by decide) rfl ((fi_wF_ne (Or.inr (by decide))).trans hX.1) fX4_90 dX4_readToken_51 ?_
        refine PW.icmp_ltN 67 (by decide) (by first | omega | (split <;> omega)) (by first | omega | (split <;> omega)) dX4_readToken_54 (fun hc54 => ?_) (fun hc54 => by (first | (exfalso; omega) | exact absurd hd (by unfold dgt; rw [hc54]; decide)))
        refine PW.aload_n rfl rfl dX4_readToken_67 ?_
        refine PW.gR hS.1 (by decide) rfl fX4_9 dX4_readToken_68 ?_
        refine PW.aload_n rfl rfl dX4_readToken_71 ?_
        refine PW.gI hS.1 (by decide) rfl ((fi_wF_ne (Or.inr (by decide))).trans h3) fX4_23 dX4_readToken_72 ?_
        refine PW.aI hS.1 (by decide) rfl (by exact rfl) ⟨by omega, by decide⟩ (iv_wF.trans hx) dX4_readToken_75 ?_
        refine PW.cS _ kX4_93 (x_isDigit (c := f a) hfa _) rfl rfl (Nat.le_of_ble_eq_true rfl) ⟨by decide, by decide⟩ ⟨Nat.zero_le _, Nat.zero_le _⟩ dX4_readToken_76 ?_
        refine PW.if_eqB 89 (by decide) dX4_readToken_79 (fun hc79 => by (first | (exfalso; omega) | exact absurd hd (by unfold dgt; rw [hc79]; decide))) (fun hc79 => ?_)
        refine PW.aload_n rfl rfl dX4_readToken_82 ?_
        refine PW.dV (ci := 4) (j := 0) _ hS.1 (by decide) rfl kX4_96 (x_readNumber hS (hX.wF (j := 5) (by decide)) hn hf ha hd ((fi_wF_ne (Or.inr (by decide))).trans h3) hw43) rfl rfl (Nat.le_of_ble_eq_true rfl) rfl ⟨by decide, by decide⟩ ⟨Nat.zero_le _, Nat.zero_le _⟩ dX4_readToken_83 (fun v m1 q => ?_)
        obtain ⟨rfl, hS, hA2, hX2, e3, e5, e4, e6⟩ := q
        refine PW.goto 112 (by decide) dX4_readToken_86 ?_
        refine PW.vret rfl (Nat.le_refl _) (Nat.le_refl _) dX4_readToken_112 ?_
        refine ⟨rfl, hS, (hA.tr (Ag.wF (fun h => h rfl))).tr hA2, hX2, ?_⟩
        by_cases ho : okN f a (numE f n a) = true
        · rw [if_pos ho] at e4 ⊢
          exact ⟨e3, e4, e5, fun _ => e6⟩
        · rw [if_neg ho] at e4 ⊢
          exact ⟨e3, e4, e5, fun h => absurd (show 258 = 256 from h) (by decide)⟩
      · rw [if_neg hd]
        have hd2 : decide (48 ≤ f a ∧ f a ≤ 57) = false := Bool.not_eq_true _ ▸ hd
        refine PW.aload_n rfl rfl dX4_readToken_0 ?_
        refine PW.gI hS.1 (by decide) rfl (h3) fX4_23 dX4_readToken_1 ?_
        refine PW.aload_n rfl rfl dX4_readToken_4 ?_
        refine PW.gI hS.1 (by decide) rfl (hX.1) fX4_90 dX4_readToken_5 ?_
        refine PW.icmp_geN 38 (by decide) (by first | omega | (split <;> omega)) (by first | omega | (split <;> omega)) dX4_readToken_8 (fun hc8 => by (first | (exfalso; omega) | exact absurd hc8 hd)) (fun hc8 => ?_)
        refine PW.aload_n rfl rfl dX4_readToken_11 ?_
        refine PW.gR hS.1 (by decide) rfl fX4_9 dX4_readToken_12 ?_
        refine PW.aload_n rfl rfl dX4_readToken_15 ?_
        refine PW.gI hS.1 (by decide) rfl (h3) fX4_23 dX4_readToken_16 ?_
        refine PW.aI hS.1 (by decide) rfl (by exact rfl) ⟨by omega, by decide⟩ (hx) dX4_readToken_19 ?_
        refine PW.bipush (v := nI 32) (by decide) dX4_readToken_20 ?_
        refine PW.icmp_neN 38 (by decide) (by first | omega | (split <;> omega)) (by first | omega | (split <;> omega)) dX4_readToken_22 (fun hc22 => ?_) (fun hc22 => by (first | (exfalso; omega) | exact absurd hc22 hd))
        refine PW.aload_n rfl rfl dX4_readToken_38 ?_
        refine PW.aload_n rfl rfl dX4_readToken_39 ?_
        refine PW.gI hS.1 (by decide) rfl (h3) fX4_23 dX4_readToken_40 ?_
        refine PW.tI hS (by decide) rfl pX4_37 dX4_readToken_43 (fun hS hw43 => ?_)
        refine PW.aload_n rfl rfl dX4_readToken_46 ?_
        refine PW.gI hS.1 (by decide) rfl ((fi_wF_ne (Or.inr (by decide))).trans h3) fX4_23 dX4_readToken_47 ?_
        refine PW.aload_n rfl rfl dX4_readToken_50 ?_
        refine PW.gI hS.1 (by decide) rfl ((fi_wF_ne (Or.inr (by decide))).trans hX.1) fX4_90 dX4_readToken_51 ?_
        refine PW.icmp_ltN 67 (by decide) (by first | omega | (split <;> omega)) (by first | omega | (split <;> omega)) dX4_readToken_54 (fun hc54 => ?_) (fun hc54 => by (first | (exfalso; omega) | exact absurd hc54 hd))
        refine PW.aload_n rfl rfl dX4_readToken_67 ?_
        refine PW.gR hS.1 (by decide) rfl fX4_9 dX4_readToken_68 ?_
        refine PW.aload_n rfl rfl dX4_readToken_71 ?_
        refine PW.gI hS.1 (by decide) rfl ((fi_wF_ne (Or.inr (by decide))).trans h3) fX4_23 dX4_readToken_72 ?_
        refine PW.aI hS.1 (by decide) rfl (by exact rfl) ⟨by omega, by decide⟩ (iv_wF.trans hx) dX4_readToken_75 ?_
        refine PW.cS _ kX4_93 (x_isDigit (c := f a) hfa _) rfl rfl (Nat.le_of_ble_eq_true rfl) ⟨by decide, by decide⟩ ⟨Nat.zero_le _, Nat.zero_le _⟩ dX4_readToken_76 ?_
        refine PW.if_eqB 89 (by decide) dX4_readToken_79 (fun hc79 => ?_) (fun hc79 => by (first | (exfalso; omega) | exact absurd hc79 hd))
        refine PW.aload_n rfl rfl dX4_readToken_89 ?_
        refine PW.aload_n rfl rfl dX4_readToken_90 ?_
        refine PW.gR hS.1 (by decide) rfl fX4_9 dX4_readToken_91 ?_
        refine PW.aload_n rfl rfl dX4_readToken_94 ?_
        refine PW.gI hS.1 (by decide) rfl ((fi_wF_ne (Or.inr (by decide))).trans h3) fX4_23 dX4_readToken_95 ?_
        refine PW.aI hS.1 (by decide) rfl (by exact rfl) ⟨by omega, by decide⟩ (iv_wF.trans hx) dX4_readToken_98 ?_
        refine PW.tI hS (by decide) rfl pX4_30 dX4_readToken_99 (fun hS hw99 => ?_)
        refine PW.aload_n rfl rfl dX4_readToken_102 ?_
        refine PW.dup rfl dX4_readToken_103 ?_
        refine PW.gI hS.1 (by decide) rfl ((fi_wF_ne (Or.inr (by decide))).trans ((fi_wF_ne (Or.inr (by decide))).trans h3)) fX4_23 dX4_readToken_104 ?_
        refine PW.iconst (v := nI 1) (by decide) dX4_readToken_107 ?_
        refine PW.iaddN dX4_readToken_108 ?_
        refine PW.tI hS (by decide) rfl pX4_23 dX4_readToken_109 (fun hS hw109 => ?_)
        refine PW.vret rfl (Nat.le_refl _) (Nat.le_refl _) dX4_readToken_112 ?_
        exact ⟨rfl, hS, ((hA.tr (Ag.wF (fun h => h rfl))).tr (Ag.wF (fun h => h rfl))).tr (Ag.wF (fun h => h rfl)), ((hX.wF (by decide)).wF (by decide)).wF (by decide), hw109, (fi_wF_ne (Or.inr (by decide))).trans hw99, (fi_wF_ne (Or.inr (by decide))).trans ((fi_wF_ne (Or.inr (by decide))).trans hw43), fun h => by have : f a = 256 := h; omega⟩
end XTOK2
/-- the model's reader behind a token -/
def tkM (k : Nat) : Nat := if k = 257 then 2 else if k = 256 then 1 else 0
def vaM (t : Nat × Nat × Nat × Nat) : Nat := if t.1 = 256 then t.2.1 else if t.1 < 256 then t.1 else 0
def MT (mem : pw_M) (t : Nat × Nat × Nat × Nat) : Prop := fi mem 95 15 = nI t.2.2.2 ∧ fi mem 95 16 = nI (tkM t.1) ∧ fi mem 95 17 = nI (vaM t) ∧ fi mem 95 18 = nI t.2.2.1
theorem TM.wF {mem : pw_M} {L j : Nat} {f : Nat → Nat} {v : Value} (h : TM mem L f) (hj : j ≠ 1) : TM (wF mem 95 j v) L f :=
  ⟨by rw [fi_wF_ne (Or.inr (fun e => hj e.symm))]; exact h.1, fun i hi => by rw [iv_wF]; exact h.2 i hi⟩
section MTOK
variable {b s : Nat} {sc : pw_E} {mem : pw_M} {n : Nat} {f : Nat → Nat}
set_option maxHeartbeats 4000000 in
theorem m_letterAt (hS : St b s sc mem) (hX : TM mem n f) (hn : n ≤ 200) {k : Nat} (hk : k ≤ 200) : Rf 0 mX6_letterAt [.ref 95, .int (nI k)] mem (some (.int (nI (if k < n then f k else 0)))) mem := by
  refine Ret.of (by decide) (Nat.le_of_ble_eq_true rfl) fun l G => ?_
  show PW _ _ _ _ [(0, _), (1, _)] _ _ _
  refine PW.iload_n rfl rfl dX6_letterAt_0 ?_
  refine PW.aload_n rfl rfl dX6_letterAt_1 ?_
  refine PW.gI hS.1 (by decide) rfl (hX.1) fX6_91 dX6_letterAt_2 ?_
  refine PW.icmp_geN 17 (by decide) (by first | omega | (split <;> omega)) (by first | omega | (split <;> omega)) dX6_letterAt_5 (fun hc5 => ?_) (fun hc5 => ?_)
  · refine PW.iconst (v := nI 0) (by decide) dX6_letterAt_17 ?_
    refine PW.iret rfl (Nat.le_refl _) (Nat.le_refl _) dX6_letterAt_18 ?_
    first | exact ⟨by rw [if_neg (by omega)], rfl⟩ | exact ⟨by rw [if_pos (by omega)], rfl⟩
  · refine PW.aload_n rfl rfl dX6_letterAt_8 ?_
    refine PW.gR hS.1 (by decide) rfl fX6_7 dX6_letterAt_9 ?_
    refine PW.iload_n rfl rfl dX6_letterAt_12 ?_
    refine PW.aI hS.1 (by decide) rfl (by exact rfl) ⟨by omega, by decide⟩ (hX.2 k (by omega)) dX6_letterAt_13 ?_
    refine PW.goto 18 (by decide) dX6_letterAt_14 ?_
    refine PW.iret rfl (Nat.le_refl _) (Nat.le_refl _) dX6_letterAt_18 ?_
    first | exact ⟨by rw [if_neg (by omega)], rfl⟩ | exact ⟨by rw [if_pos (by omega)], rfl⟩
theorem m_dig {c : Nat} (hc : c < 256) (mem : pw_M) : Rf 0 mX6_in [.long (nI c).toInt64, .long 48, .long 57] mem (some (.int (bI (decide (48 ≤ c ∧ c ≤ 57))))) mem := by
  have h := m_in (nI c).toInt64 48 57 mem
  have e : decide ((48 : Int64) ≤ (nI c).toInt64 ∧ (nI c).toInt64 ≤ 57) = decide (48 ≤ c ∧ c ≤ 57) := by
    rw [rng_m, nI_toInt (n := c) (by omega), show (48 : Int64).toInt = 48 from rfl, show (57 : Int64).toInt = 57 from rfl]
    congr 1
    apply propext
    constructor <;> (intro h; omega)
  rw [e] at h
  exact h
/-- nothing of the model but its reader's place, token, value, beginning -/
def Rd (mem m : pw_M) : Prop := Ag (fun r => r ≠ 95) mem m ∧ ∀ j, j < 15 ∨ 18 < j → fv m 95 j = fv mem 95 j
theorem Rd.rf {m : pw_M} : Rd m m := ⟨Ag.rf, fun _ _ => rfl⟩
theorem Rd.tr {m m1 m2 : pw_M} (h1 : Rd m m1) (h2 : Rd m1 m2) : Rd m m2 := ⟨h1.1.tr h2.1, fun j hj => (h2.2 j hj).trans (h1.2 j hj)⟩
theorem Rd.wF {m m1 : pw_M} {j : Nat} {v : Value} (h : Rd m m1) (hj : 15 ≤ j ∧ j ≤ 18) : Rd m (wF m1 95 j v) := ⟨h.1.tr (Ag.wF (fun h => h rfl)), fun i hi => (fv_wF_ne (Or.inr (by omega))).trans (h.2 i hi)⟩
theorem TM.rd {mem m : pw_M} {L : Nat} {f : Nat → Nat} (h : TM mem L f) (hR : Rd mem m) : TM m L f := h.ag2 (fi_fv (hR.2 1 (by omega))) (fun q => hR.1.iv (by decide) q)
set_option maxHeartbeats 8000000 in
theorem m_nextToken (hS : St b s sc mem) (hX : TM mem n f) (hn : n ≤ 200) (hf : ∀ i, i < n → f i < 256) {q : Nat} (hq : q ≤ n) (h3 : fi mem 95 15 = nI q) : Ret 1 0 0 mX6_nextToken [.ref 95] mem (fun v m1 => v = none ∧ St b s sc m1 ∧ Rd mem m1 ∧ MT m1 (tk f n q)) := by
  obtain ⟨g1, g2, g3, g4⟩ := run_spec (p := blk f) (n := n) 200 q (by omega) hq
  unfold tk tkA
  generalize run (blk f) n 200 q = a at g1 g2 g3 g4 ⊢
  have hX0 := hX
  refine Ret.of (by decide) (Nat.le_of_ble_eq_true rfl) fun l G => ?_
  show PW _ _ _ _ [(0, _)] _ _ _
  refine PW.loop (I := fun j m => St b s sc m ∧ Rd mem m ∧ fi m 95 15 = nI (q + j)) (fun j _ => [(0, .ref 95)]) (fun _ m => m) (a - q) (fun j m hj hI ih => ?_) (fun m hI => ?_) _ ⟨hS, Rd.rf, h3⟩
  · obtain ⟨hS, hA, h3⟩ := hI
    have hX := hX.rd hA
    have hb := of_decide_eq_true (g3 (q + j) (by omega) (by omega))
    have hl := m_letterAt hS hX hn (k := q + j) (by omega)
    rw [if_pos (show q + j < n by omega), hb] at hl
    refine PW.aload_n rfl rfl dX6_nextToken_0 ?_
    refine PW.aload_n rfl rfl dX6_nextToken_1 ?_
    refine PW.gI hS.1 (by decide) rfl (h3) fX6_94 dX6_nextToken_2 ?_
    refine PW.cV (ci := 6) (j := 0) _ hS.1 (by decide) rfl kX6_97 (hl) rfl rfl (Nat.le_of_ble_eq_true rfl) rfl ⟨by decide, by decide⟩ ⟨Nat.zero_le _, Nat.zero_le _⟩ dX6_nextToken_5 ?_
    refine PW.bipush (v := nI 32) (by decide) dX6_nextToken_8 ?_
    refine PW.icmp_neN 26 (by decide) (by first | omega | (split <;> omega)) (by first | omega | (split <;> omega)) dX6_nextToken_10 (fun hc10 => by exfalso; omega) (fun hc10 => ?_)
    refine PW.aload_n rfl rfl dX6_nextToken_13 ?_
    refine PW.dup rfl dX6_nextToken_14 ?_
    refine PW.gI hS.1 (by decide) rfl (h3) fX6_94 dX6_nextToken_15 ?_
    refine PW.iconst (v := nI 1) (by decide) dX6_nextToken_18 ?_
    refine PW.iaddN dX6_nextToken_19 ?_
    refine PW.tI hS (by decide) rfl pX6_94 dX6_nextToken_20 (fun hS hw20 => ?_)
    refine PW.goto 0 (by decide) dX6_nextToken_23 ?_
    exact ih _ ⟨hS, hA.wF (by decide), hw20⟩
  · obtain ⟨hS, hA, h3⟩ := hI
    have hX := hX.rd hA
    rw [show q + (a - q) = a by omega] at h3
    have hl := m_letterAt hS hX hn (k := a) (by omega)
    have hla : (if a < n then f a else 0) ≠ 32 ∧ (if a < n then f a else 0) < 256 := by
      by_cases h : a < n
      · rw [if_pos h]; exact ⟨of_decide_eq_false (g4 h), hf a h⟩
      · rw [if_neg h]; exact ⟨by decide, by decide⟩
    by_cases hna : n ≤ a
    · rw [if_pos hna]
      refine PW.aload_n rfl rfl dX6_nextToken_0 ?_
      refine PW.aload_n rfl rfl dX6_nextToken_1 ?_
      refine PW.gI hS.1 (by decide) rfl (h3) fX6_94 dX6_nextToken_2 ?_
      refine PW.cV (ci := 6) (j := 0) _ hS.1 (by decide) rfl kX6_97 (hl) rfl rfl (Nat.le_of_ble_eq_true rfl) rfl ⟨by decide, by decide⟩ ⟨Nat.zero_le _, Nat.zero_le _⟩ dX6_nextToken_5 ?_
      refine PW.bipush (v := nI 32) (by decide) dX6_nextToken_8 ?_
      refine PW.icmp_neN 26 (by decide) (by first | omega | (split <;> omega)) (by first | omega | (split <;> omega)) dX6_nextToken_10 (fun hc10 => ?_) (fun hc10 => by exfalso; omega)
      refine PW.aload_n rfl rfl dX6_nextToken_26 ?_
      refine PW.aload_n rfl rfl dX6_nextToken_27 ?_
      refine PW.gI hS.1 (by decide) rfl (h3) fX6_94 dX6_nextToken_28 ?_
      refine PW.tI hS (by decide) rfl pX6_101 dX6_nextToken_31 (fun hS hw31 => ?_)
      refine PW.aload_n rfl rfl dX6_nextToken_34 ?_
      refine PW.iconst (v := nI 0) (by decide) dX6_nextToken_35 ?_
      refine PW.tI hS (by decide) rfl pX6_104 dX6_nextToken_36 (fun hS hw36 => ?_)
      refine PW.aload_n rfl rfl dX6_nextToken_39 ?_
      refine PW.gI hS.1 (by decide) rfl ((fi_wF_ne (Or.inr (by decide))).trans ((fi_wF_ne (Or.inr (by decide))).trans h3)) fX6_94 dX6_nextToken_40 ?_
      refine PW.aload_n rfl rfl dX6_nextToken_43 ?_
      refine PW.gI hS.1 (by decide) rfl ((fi_wF_ne (Or.inr (by decide))).trans ((fi_wF_ne (Or.inr (by decide))).trans hX.1)) fX6_91 dX6_nextToken_44 ?_
      refine PW.icmp_neN 58 (by decide) (by first | omega | (split <;> omega)) (by first | omega | (split <;> omega)) dX6_nextToken_47 (fun hc47 => by exfalso; omega) (fun hc47 => ?_)
      refine PW.aload_n rfl rfl dX6_nextToken_50 ?_
      refine PW.iconst (v := nI 2) (by decide) dX6_nextToken_51 ?_
      refine PW.tI hS (by decide) rfl pX6_107 dX6_nextToken_52 (fun hS hw52 => ?_)
      refine PW.goto 255 (by decide) dX6_nextToken_55 ?_
      refine PW.vret rfl (Nat.le_refl _) (Nat.le_refl _) dX6_nextToken_255 ?_
      exact ⟨rfl, hS, ((hA.wF (by decide)).wF (by decide)).wF (by decide), (fi_wF_ne (Or.inr (by decide))).trans ((fi_wF_ne (Or.inr (by decide))).trans ((fi_wF_ne (Or.inr (by decide))).trans h3)), hw52, (fi_wF_ne (Or.inr (by decide))).trans hw36, (fi_wF_ne (Or.inr (by decide))).trans ((fi_wF_ne (Or.inr (by decide))).trans hw31)⟩
    · rw [if_neg hna]
      have ha : a < n := by omega
      have hfa := hf a ha
      refine PW.aload_n rfl rfl dX6_nextToken_0 ?_
      refine PW.aload_n rfl rfl dX6_nextToken_1 ?_
      refine PW.gI hS.1 (by decide) rfl (h3) fX6_94 dX6_nextToken_2 ?_
      refine PW.cV (ci := 6) (j := 0) _ hS.1 (by decide) rfl kX6_97 (hl) rfl rfl (Nat.le_of_ble_eq_true rfl) rfl ⟨by decide, by decide⟩ ⟨Nat.zero_le _, Nat.zero_le _⟩ dX6_nextToken_5 ?_
      refine PW.bipush (v := nI 32) (by decide) dX6_nextToken_8 ?_
      refine PW.icmp_neN 26 (by decide) (by first | omega | (split <;> omega)) (by first | omega | (split <;> omega)) dX6_nextToken_10 (fun hc10 => ?_) (fun hc10 => by exfalso; omega)
      refine PW.aload_n rfl rfl dX6_nextToken_26 ?_
      refine PW.aload_n rfl rfl dX6_nextToken_27 ?_
      refine PW.gI hS.1 (by decide) rfl (h3) fX6_94 dX6_nextToken_28 ?_
      refine PW.tI hS (by decide) rfl pX6_101 dX6_nextToken_31 (fun hS hw31 => ?_)
      refine PW.aload_n rfl rfl dX6_nextToken_34 ?_
      refine PW.iconst (v := nI 0) (by decide) dX6_nextToken_35 ?_
      refine PW.tI hS (by decide) rfl pX6_104 dX6_nextToken_36 (fun hS hw36 => ?_)
      refine PW.aload_n rfl rfl dX6_nextToken_39 ?_
      refine PW.gI hS.1 (by decide) rfl ((fi_wF_ne (Or.inr (by decide))).trans ((fi_wF_ne (Or.inr (by decide))).trans h3)) fX6_94 dX6_nextToken_40 ?_
      refine PW.aload_n rfl rfl dX6_nextToken_43 ?_
      refine PW.gI hS.1 (by decide) rfl ((fi_wF_ne (Or.inr (by decide))).trans ((fi_wF_ne (Or.inr (by decide))).trans hX.1)) fX6_91 dX6_nextToken_44 ?_
      refine PW.icmp_neN 58 (by decide) (by first | omega | (split <;> omega)) (by first | omega | (split <;> omega)) dX6_nextToken_47 (fun hc47 => ?_) (fun hc47 => by exfalso; omega)
      skip
      have hR2 := (hA.wF (j := 18) (v := .int (nI a)) (by decide)).wF (j := 17) (v := .int (nI 0)) (by decide)
      have h15 : fi (wF (wF m 95 18 (.int (nI a))) 95 17 (.int (nI 0))) 95 15 = nI a := (fi_wF_ne (Or.inr (by decide))).trans ((fi_wF_ne (Or.inr (by decide))).trans h3)
      have h18 : fi (wF (wF m 95 18 (.int (nI a))) 95 17 (.int (nI 0))) 95 18 = nI a := (fi_wF_ne (Or.inr (by decide))).trans hw31
      have hX2 := (hX.wF (j := 18) (v := .int (nI a)) (by decide)).wF (j := 17) (v := .int (nI 0)) (by decide)
      generalize wF (wF m 95 18 (.int (nI a))) 95 17 (.int (nI 0)) = m2 at hS hR2 h15 h18 hX2 hw36 ⊢
      have hl2 := m_letterAt hS hX2 hn (k := a) (by omega)
      rw [if_pos ha] at hl2
      by_cases hd : dgt f a = true
      · rw [if_pos hd]
        refine PW.aload_n rfl rfl dX6_nextToken_58 ?_
        refine PW.aload_n rfl rfl dX6_nextToken_59 ?_
        refine PW.gI hS.1 (by decide) rfl (h15) fX6_94 dX6_nextToken_60 ?_
        refine PW.cV (ci := 6) (j := 0) _ hS.1 (by decide) rfl kX6_97 (hl2) rfl rfl (Nat.le_of_ble_eq_true rfl) rfl ⟨by decide, by decide⟩ ⟨Nat.zero_le _, Nat.zero_le _⟩ dX6_nextToken_63 ?_
        refine PW.i2l dX6_nextToken_66 ?_
        refine PW.ldc2 cX6_110 dX6_nextToken_67 ?_
        refine PW.ldc2 cX6_112 dX6_nextToken_70 ?_
        refine PW.cS _ kX6_82 (m_dig (c := f a) hfa m2) rfl rfl (Nat.le_of_ble_eq_true rfl) ⟨by decide, by decide⟩ ⟨Nat.zero_le _, Nat.zero_le _⟩ dX6_nextToken_73 ?_
        refine PW.if_eqB 227 (by decide) dX6_nextToken_76 (fun hc76 => by (first | (exfalso; omega) | exact absurd hd (by unfold dgt; rw [hc76]; decide))) (fun hc76 => ?_)
        skip
        obtain ⟨d1, d2, d3, d4⟩ := numE_gt hn ha hd
        generalize numE f n a = e at d1 d2 d3 d4 ⊢
        refine PW.loop (I := fun j m => St b s sc m ∧ Rd mem m ∧ fi m 95 15 = nI (a + j) ∧ fi m 95 18 = nI a ∧ fi m 95 17 = nI (vm f a j)) (fun j _ => [(0, .ref 95)]) (fun _ m => m) (e - a) (fun j m hj hI ih => ?_) (fun m hI => ?_) _ ⟨hS, hR2, h15, h18, hw36⟩
        · obtain ⟨hS, hA, h15, h18, h17⟩ := hI
          have hX := hX0.rd hA
          have hdj := d3 (a + j) (by omega) (by omega)
          have hl := m_letterAt hS hX hn (k := a + j) (by omega)
          rw [if_pos (show a + j < n by omega)] at hl
          have hv := (vm_vl (f := f) (a := a) j (fun i hi => d3 (a + i) (by omega) (by omega))).1
          have ev : vm f a (j + 1) = if vm f a j ≤ 99 then 10 * vm f a j + f (a + j) - 48 else vm f a j := rfl
          refine PW.aload_n rfl rfl dX6_nextToken_79 ?_
          refine PW.aload_n rfl rfl dX6_nextToken_80 ?_
          refine PW.gI hS.1 (by decide) rfl (h15) fX6_94 dX6_nextToken_81 ?_
          refine PW.cV (ci := 6) (j := 0) _ hS.1 (by decide) rfl kX6_97 (hl) rfl rfl (Nat.le_of_ble_eq_true rfl) rfl ⟨by decide, by decide⟩ ⟨Nat.zero_le _, Nat.zero_le _⟩ dX6_nextToken_84 ?_
          refine PW.i2l dX6_nextToken_87 ?_
          refine PW.ldc2 cX6_110 dX6_nextToken_88 ?_
          refine PW.ldc2 cX6_112 dX6_nextToken_91 ?_
          refine PW.cS _ kX6_82 (m_dig (c := f (a + j)) (by omega) m) rfl rfl (Nat.le_of_ble_eq_true rfl) ⟨by decide, by decide⟩ ⟨Nat.zero_le _, Nat.zero_le _⟩ dX6_nextToken_94 ?_
          refine PW.if_eqB 153 (by decide) dX6_nextToken_97 (fun hc97 => by (first | (exfalso; omega) | exact absurd (decide_eq_true hdj) (by rw [hc97]; decide))) (fun hc97 => ?_)
          refine PW.aload_n rfl rfl dX6_nextToken_100 ?_
          refine PW.aload_n rfl rfl dX6_nextToken_101 ?_
          refine PW.gI hS.1 (by decide) rfl (h17) fX6_104 dX6_nextToken_102 ?_
          refine PW.bipush (v := nI 99) (by decide) dX6_nextToken_105 ?_
          refine PW.icmp_leN 117 (by decide) (by first | omega | (split <;> omega)) (by first | omega | (split <;> omega)) dX6_nextToken_107 (fun hc107 => ?_) (fun hc107 => ?_)
          · refine PW.bipush (v := nI 10) (by decide) dX6_nextToken_117 ?_
            refine PW.aload_n rfl rfl dX6_nextToken_119 ?_
            refine PW.gI hS.1 (by decide) rfl (h17) fX6_104 dX6_nextToken_120 ?_
            refine PW.imulN dX6_nextToken_123 ?_
            refine PW.aload_n rfl rfl dX6_nextToken_124 ?_
            refine PW.gR hS.1 (by decide) rfl fX6_7 dX6_nextToken_125 ?_
            refine PW.aload_n rfl rfl dX6_nextToken_128 ?_
            refine PW.gI hS.1 (by decide) rfl (h15) fX6_94 dX6_nextToken_129 ?_
            refine PW.aI hS.1 (by decide) rfl (by exact rfl) ⟨by omega, by decide⟩ (hX.2 (a + j) (by omega)) dX6_nextToken_132 ?_
            refine PW.iaddN dX6_nextToken_133 ?_
            refine PW.bipush (v := nI 48) (by decide) dX6_nextToken_134 ?_
            refine PW.isubN (by omega) dX6_nextToken_136 ?_
            refine PW.tI hS (by decide) rfl pX6_104 dX6_nextToken_137 (fun hS hw137 => ?_)
            refine PW.aload_n rfl rfl dX6_nextToken_140 ?_
            refine PW.dup rfl dX6_nextToken_141 ?_
            refine PW.gI hS.1 (by decide) rfl ((fi_wF_ne (Or.inr (by decide))).trans h15) fX6_94 dX6_nextToken_142 ?_
            refine PW.iconst (v := nI 1) (by decide) dX6_nextToken_145 ?_
            refine PW.iaddN dX6_nextToken_146 ?_
            refine PW.tI hS (by decide) rfl pX6_94 dX6_nextToken_147 (fun hS hw147 => ?_)
            refine PW.goto 79 (by decide) dX6_nextToken_150 ?_
            first | (rw [ev, if_pos hc107] at ih; exact ih _ ⟨hS, (hA.wF (by decide)).wF (by decide), hw147, (fi_wF_ne (Or.inr (by decide))).trans ((fi_wF_ne (Or.inr (by decide))).trans h18), (fi_wF_ne (Or.inr (by decide))).trans hw137⟩) | (rw [ev, if_neg (by omega)] at ih; exact ih _ ⟨hS, (hA.wF (by decide)).wF (by decide), hw147, (fi_wF_ne (Or.inr (by decide))).trans ((fi_wF_ne (Or.inr (by decide))).trans h18), (fi_wF_ne (Or.inr (by decide))).trans hw137⟩)
          · refine PW.aload_n rfl rfl dX6_nextToken_110 ?_
            refine PW.gI hS.1 (by decide) rfl (h17) fX6_104 dX6_nextToken_111 ?_
            refine PW.goto 137 (by decide) dX6_nextToken_114 ?_
            refine PW.tI hS (by decide) rfl pX6_104 dX6_nextToken_137 (fun hS hw137 => ?_)
            refine PW.aload_n rfl rfl dX6_nextToken_140 ?_
            refine PW.dup rfl dX6_nextToken_141 ?_
            refine PW.gI hS.1 (by decide) rfl ((fi_wF_ne (Or.inr (by decide))).trans h15) fX6_94 dX6_nextToken_142 ?_
            refine PW.iconst (v := nI 1) (by decide) dX6_nextToken_145 ?_
            refine PW.iaddN dX6_nextToken_146 ?_
            refine PW.tI hS (by decide) rfl pX6_94 dX6_nextToken_147 (fun hS hw147 => ?_)
            refine PW.goto 79 (by decide) dX6_nextToken_150 ?_
            first | (rw [ev, if_pos hc107] at ih; exact ih _ ⟨hS, (hA.wF (by decide)).wF (by decide), hw147, (fi_wF_ne (Or.inr (by decide))).trans ((fi_wF_ne (Or.inr (by decide))).trans h18), (fi_wF_ne (Or.inr (by decide))).trans hw137⟩) | (rw [ev, if_neg (by omega)] at ih; exact ih _ ⟨hS, (hA.wF (by decide)).wF (by decide), hw147, (fi_wF_ne (Or.inr (by decide))).trans ((fi_wF_ne (Or.inr (by decide))).trans h18), (fi_wF_ne (Or.inr (by decide))).trans hw137⟩)
        · obtain ⟨hS, hA, h15, h18, h17⟩ := hI
          have hX := hX0.rd hA
          rw [show a + (e - a) = e by omega] at h15
          have hl := m_letterAt hS hX hn (k := e) (by omega)
          have hle : ((if e < n then f e else 0) < 256) ∧ decide (48 ≤ (if e < n then f e else 0) ∧ (if e < n then f e else 0) ≤ 57) = false := by
            by_cases h : e < n
            · rw [if_pos h]; exact ⟨hf e h, d4 h⟩
            · rw [if_neg h]; exact ⟨by decide, rfl⟩
          obtain ⟨hv, hvv⟩ := vm_vl (f := f) (a := a) (e - a) (fun i hi => d3 (a + i) (by omega) (by omega))
          have k1 : vm f a (e - a) < 100 → vl f a (e - a) = vm f a (e - a) := fun h => by rw [hvv, if_pos h]
          have k2 : ¬ vm f a (e - a) < 100 → vl f a (e - a) = 100 := fun h => by rw [hvv, if_neg h]
          have hda := d3 a (by omega) (by omega)
          have hv1 : e - a = 1 → vm f a (e - a) ≤ 9 := fun h => by
            rw [h, show vm f a 1 = if vm f a 0 ≤ 99 then 10 * vm f a 0 + f (a + 0) - 48 else vm f a 0 from rfl, if_pos (show vm f a 0 ≤ 99 from Nat.zero_le _), show vm f a 0 = 0 from rfl, Nat.add_zero]
            omega
          have o1 : (e - a = 1 ∨ f a ≠ 48) ∧ vl f a (e - a) ≤ 99 → okN f a e = true := fun h => decide_eq_true h
          have o2 : ¬ ((e - a = 1 ∨ f a ≠ 48) ∧ vl f a (e - a) ≤ 99) → ¬ okN f a e = true := fun h q => h (of_decide_eq_true q)
          refine PW.aload_n rfl rfl dX6_nextToken_79 ?_
          refine PW.aload_n rfl rfl dX6_nextToken_80 ?_
          refine PW.gI hS.1 (by decide) rfl (h15) fX6_94 dX6_nextToken_81 ?_
          refine PW.cV (ci := 6) (j := 0) _ hS.1 (by decide) rfl kX6_97 (hl) rfl rfl (Nat.le_of_ble_eq_true rfl) rfl ⟨by decide, by decide⟩ ⟨Nat.zero_le _, Nat.zero_le _⟩ dX6_nextToken_84 ?_
          refine PW.i2l dX6_nextToken_87 ?_
          refine PW.ldc2 cX6_110 dX6_nextToken_88 ?_
          refine PW.ldc2 cX6_112 dX6_nextToken_91 ?_
          refine PW.cS _ kX6_82 (m_dig hle.1 m) rfl rfl (Nat.le_of_ble_eq_true rfl) ⟨by decide, by decide⟩ ⟨Nat.zero_le _, Nat.zero_le _⟩ dX6_nextToken_94 ?_
          refine PW.if_eqB 153 (by decide) dX6_nextToken_97 (fun hc97 => ?_) (fun hc97 => by (first | (exfalso; omega) | (rw [hle.2] at hc97; cases hc97)))
          refine PW.aload_n rfl rfl dX6_nextToken_153 ?_
          refine PW.gI hS.1 (by decide) rfl (h15) fX6_94 dX6_nextToken_154 ?_
          refine PW.aload_n rfl rfl dX6_nextToken_157 ?_
          refine PW.gI hS.1 (by decide) rfl (h18) fX6_101 dX6_nextToken_158 ?_
          refine PW.isubN (by omega) dX6_nextToken_161 ?_
          refine PW.iconst (v := nI 1) (by decide) dX6_nextToken_162 ?_
          refine PW.icmp_eqN 189 (by decide) (by first | omega | (split <;> omega)) (by first | omega | (split <;> omega)) dX6_nextToken_163 (fun hc163 => ?_) (fun hc163 => ?_)
          · refine PW.iconst (v := nI 1) (by decide) dX6_nextToken_189 ?_
            refine PW.goto 194 (by decide) dX6_nextToken_190 ?_
            refine PW.istore_n rfl (by decide) dX6_nextToken_194 (?_ : PW _ _ _ _ [(0, _), (1, _)] _ _ _)
            refine PW.aload_n rfl rfl dX6_nextToken_195 ?_
            refine PW.iload_n rfl rfl dX6_nextToken_196 ?_
            refine PW.if_eqN 204 (by decide) (by decide) dX6_nextToken_197 (fun h => absurd h (by decide)) (fun _ => ?_)
            refine PW.iconst (v := nI 1) (by decide) dX6_nextToken_200 ?_
            refine PW.goto 205 (by decide) dX6_nextToken_201 ?_
            refine PW.tI hS (by decide) rfl pX6_107 dX6_nextToken_205 (fun hS hw205 => ?_)
            refine PW.aload_n rfl rfl dX6_nextToken_208 ?_
            refine PW.iload_n rfl rfl dX6_nextToken_209 ?_
            refine PW.if_eqN 220 (by decide) (by decide) dX6_nextToken_210 (fun h => absurd h (by decide)) (fun _ => ?_)
            refine PW.aload_n rfl rfl dX6_nextToken_213 ?_
            refine PW.gI hS.1 (by decide) rfl ((fi_wF_ne (Or.inr (by decide))).trans h17) fX6_104 dX6_nextToken_214 ?_
            refine PW.goto 221 (by decide) dX6_nextToken_217 ?_
            refine PW.tI hS (by decide) rfl pX6_104 dX6_nextToken_221 (fun hS hw221 => ?_)
            refine PW.goto 255 (by decide) dX6_nextToken_224 ?_
            refine PW.vret rfl (Nat.le_refl _) (Nat.le_refl _) dX6_nextToken_255 ?_
            first | (rw [if_pos (o1 (by omega))]; exact ⟨rfl, hS, (hA.wF (by decide)).wF (by decide), (fi_wF_ne (Or.inr (by decide))).trans ((fi_wF_ne (Or.inr (by decide))).trans h15), (fi_wF_ne (Or.inr (by decide))).trans hw205, hw221.trans (by rw [← k1 (by omega)]; rfl), (fi_wF_ne (Or.inr (by decide))).trans ((fi_wF_ne (Or.inr (by decide))).trans h18)⟩) | (rw [if_neg (o2 (by omega))]; exact ⟨rfl, hS, (hA.wF (by decide)).wF (by decide), (fi_wF_ne (Or.inr (by decide))).trans ((fi_wF_ne (Or.inr (by decide))).trans h15), (fi_wF_ne (Or.inr (by decide))).trans hw205, hw221, (fi_wF_ne (Or.inr (by decide))).trans ((fi_wF_ne (Or.inr (by decide))).trans h18)⟩)
          · refine PW.aload_n rfl rfl dX6_nextToken_166 ?_
            refine PW.gR hS.1 (by decide) rfl fX6_7 dX6_nextToken_167 ?_
            refine PW.aload_n rfl rfl dX6_nextToken_170 ?_
            refine PW.gI hS.1 (by decide) rfl (h18) fX6_101 dX6_nextToken_171 ?_
            refine PW.aI hS.1 (by decide) rfl (by exact rfl) ⟨by omega, by decide⟩ (hX.2 a ha) dX6_nextToken_174 ?_
            refine PW.bipush (v := nI 48) (by decide) dX6_nextToken_175 ?_
            refine PW.icmp_eqN 193 (by decide) (by first | omega | (split <;> omega)) (by first | omega | (split <;> omega)) dX6_nextToken_177 (fun hc177 => ?_) (fun hc177 => ?_)
            · refine PW.iconst (v := nI 0) (by decide) dX6_nextToken_193 ?_
              refine PW.istore_n rfl (by decide) dX6_nextToken_194 (?_ : PW _ _ _ _ [(0, _), (1, _)] _ _ _)
              refine PW.aload_n rfl rfl dX6_nextToken_195 ?_
              refine PW.iload_n rfl rfl dX6_nextToken_196 ?_
              refine PW.if_eqN 204 (by decide) (by decide) dX6_nextToken_197 (fun _ => ?_) (fun h => absurd h (by decide))
              refine PW.iconst (v := nI 0) (by decide) dX6_nextToken_204 ?_
              refine PW.tI hS (by decide) rfl pX6_107 dX6_nextToken_205 (fun hS hw205 => ?_)
              refine PW.aload_n rfl rfl dX6_nextToken_208 ?_
              refine PW.iload_n rfl rfl dX6_nextToken_209 ?_
              refine PW.if_eqN 220 (by decide) (by decide) dX6_nextToken_210 (fun _ => ?_) (fun h => absurd h (by decide))
              refine PW.iconst (v := nI 0) (by decide) dX6_nextToken_220 ?_
              refine PW.tI hS (by decide) rfl pX6_104 dX6_nextToken_221 (fun hS hw221 => ?_)
              refine PW.goto 255 (by decide) dX6_nextToken_224 ?_
              refine PW.vret rfl (Nat.le_refl _) (Nat.le_refl _) dX6_nextToken_255 ?_
              first | (rw [if_pos (o1 (by omega))]; exact ⟨rfl, hS, (hA.wF (by decide)).wF (by decide), (fi_wF_ne (Or.inr (by decide))).trans ((fi_wF_ne (Or.inr (by decide))).trans h15), (fi_wF_ne (Or.inr (by decide))).trans hw205, hw221.trans (by rw [← k1 (by omega)]; rfl), (fi_wF_ne (Or.inr (by decide))).trans ((fi_wF_ne (Or.inr (by decide))).trans h18)⟩) | (rw [if_neg (o2 (by omega))]; exact ⟨rfl, hS, (hA.wF (by decide)).wF (by decide), (fi_wF_ne (Or.inr (by decide))).trans ((fi_wF_ne (Or.inr (by decide))).trans h15), (fi_wF_ne (Or.inr (by decide))).trans hw205, hw221, (fi_wF_ne (Or.inr (by decide))).trans ((fi_wF_ne (Or.inr (by decide))).trans h18)⟩)
            · refine PW.aload_n rfl rfl dX6_nextToken_180 ?_
              refine PW.gI hS.1 (by decide) rfl (h17) fX6_104 dX6_nextToken_181 ?_
              refine PW.bipush (v := nI 100) (by decide) dX6_nextToken_184 ?_
              refine PW.icmp_geN 193 (by decide) (by first | omega | (split <;> omega)) (by first | omega | (split <;> omega)) dX6_nextToken_186 (fun hc186 => ?_) (fun hc186 => ?_)
              · refine PW.iconst (v := nI 0) (by decide) dX6_nextToken_193 ?_
                refine PW.istore_n rfl (by decide) dX6_nextToken_194 (?_ : PW _ _ _ _ [(0, _), (1, _)] _ _ _)
                refine PW.aload_n rfl rfl dX6_nextToken_195 ?_
                refine PW.iload_n rfl rfl dX6_nextToken_196 ?_
                refine PW.if_eqN 204 (by decide) (by decide) dX6_nextToken_197 (fun _ => ?_) (fun h => absurd h (by decide))
                refine PW.iconst (v := nI 0) (by decide) dX6_nextToken_204 ?_
                refine PW.tI hS (by decide) rfl pX6_107 dX6_nextToken_205 (fun hS hw205 => ?_)
                refine PW.aload_n rfl rfl dX6_nextToken_208 ?_
                refine PW.iload_n rfl rfl dX6_nextToken_209 ?_
                refine PW.if_eqN 220 (by decide) (by decide) dX6_nextToken_210 (fun _ => ?_) (fun h => absurd h (by decide))
                refine PW.iconst (v := nI 0) (by decide) dX6_nextToken_220 ?_
                refine PW.tI hS (by decide) rfl pX6_104 dX6_nextToken_221 (fun hS hw221 => ?_)
                refine PW.goto 255 (by decide) dX6_nextToken_224 ?_
                refine PW.vret rfl (Nat.le_refl _) (Nat.le_refl _) dX6_nextToken_255 ?_
                first | (rw [if_pos (o1 (by omega))]; exact ⟨rfl, hS, (hA.wF (by decide)).wF (by decide), (fi_wF_ne (Or.inr (by decide))).trans ((fi_wF_ne (Or.inr (by decide))).trans h15), (fi_wF_ne (Or.inr (by decide))).trans hw205, hw221.trans (by rw [← k1 (by omega)]; rfl), (fi_wF_ne (Or.inr (by decide))).trans ((fi_wF_ne (Or.inr (by decide))).trans h18)⟩) | (rw [if_neg (o2 (by omega))]; exact ⟨rfl, hS, (hA.wF (by decide)).wF (by decide), (fi_wF_ne (Or.inr (by decide))).trans ((fi_wF_ne (Or.inr (by decide))).trans h15), (fi_wF_ne (Or.inr (by decide))).trans hw205, hw221, (fi_wF_ne (Or.inr (by decide))).trans ((fi_wF_ne (Or.inr (by decide))).trans h18)⟩)
              · refine PW.iconst (v := nI 1) (by decide) dX6_nextToken_189 ?_
                refine PW.goto 194 (by decide) dX6_nextToken_190 ?_
                refine PW.istore_n rfl (by decide) dX6_nextToken_194 (?_ : PW _ _ _ _ [(0, _), (1, _)] _ _ _)
                refine PW.aload_n rfl rfl dX6_nextToken_195 ?_
                refine PW.iload_n rfl rfl dX6_nextToken_196 ?_
                refine PW.if_eqN 204 (by decide) (by decide) dX6_nextToken_197 (fun h => absurd h (by decide)) (fun _ => ?_)
                refine PW.iconst (v := nI 1) (by decide) dX6_nextToken_200 ?_
                refine PW.goto 205 (by decide) dX6_nextToken_201 ?_
                refine PW.tI hS (by decide) rfl pX6_107 dX6_nextToken_205 (fun hS hw205 => ?_)
                refine PW.aload_n rfl rfl dX6_nextToken_208 ?_
                refine PW.iload_n rfl rfl dX6_nextToken_209 ?_
                refine PW.if_eqN 220 (by decide) (by decide) dX6_nextToken_210 (fun h => absurd h (by decide)) (fun _ => ?_)
                refine PW.aload_n rfl rfl dX6_nextToken_213 ?_
                refine PW.gI hS.1 (by decide) rfl ((fi_wF_ne (Or.inr (by decide))).trans h17) fX6_104 dX6_nextToken_214 ?_
                refine PW.goto 221 (by decide) dX6_nextToken_217 ?_
                refine PW.tI hS (by decide) rfl pX6_104 dX6_nextToken_221 (fun hS hw221 => ?_)
                refine PW.goto 255 (by decide) dX6_nextToken_224 ?_
                refine PW.vret rfl (Nat.le_refl _) (Nat.le_refl _) dX6_nextToken_255 ?_
                first | (rw [if_pos (o1 (by omega))]; exact ⟨rfl, hS, (hA.wF (by decide)).wF (by decide), (fi_wF_ne (Or.inr (by decide))).trans ((fi_wF_ne (Or.inr (by decide))).trans h15), (fi_wF_ne (Or.inr (by decide))).trans hw205, hw221.trans (by rw [← k1 (by omega)]; rfl), (fi_wF_ne (Or.inr (by decide))).trans ((fi_wF_ne (Or.inr (by decide))).trans h18)⟩) | (rw [if_neg (o2 (by omega))]; exact ⟨rfl, hS, (hA.wF (by decide)).wF (by decide), (fi_wF_ne (Or.inr (by decide))).trans ((fi_wF_ne (Or.inr (by decide))).trans h15), (fi_wF_ne (Or.inr (by decide))).trans hw205, hw221, (fi_wF_ne (Or.inr (by decide))).trans ((fi_wF_ne (Or.inr (by decide))).trans h18)⟩)
      · rw [if_neg hd]
        refine PW.aload_n rfl rfl dX6_nextToken_58 ?_
        refine PW.aload_n rfl rfl dX6_nextToken_59 ?_
        refine PW.gI hS.1 (by decide) rfl (h15) fX6_94 dX6_nextToken_60 ?_
        refine PW.cV (ci := 6) (j := 0) _ hS.1 (by decide) rfl kX6_97 (hl2) rfl rfl (Nat.le_of_ble_eq_true rfl) rfl ⟨by decide, by decide⟩ ⟨Nat.zero_le _, Nat.zero_le _⟩ dX6_nextToken_63 ?_
        refine PW.i2l dX6_nextToken_66 ?_
        refine PW.ldc2 cX6_110 dX6_nextToken_67 ?_
        refine PW.ldc2 cX6_112 dX6_nextToken_70 ?_
        refine PW.cS _ kX6_82 (m_dig (c := f a) hfa m2) rfl rfl (Nat.le_of_ble_eq_true rfl) ⟨by decide, by decide⟩ ⟨Nat.zero_le _, Nat.zero_le _⟩ dX6_nextToken_73 ?_
        refine PW.if_eqB 227 (by decide) dX6_nextToken_76 (fun hc76 => ?_) (fun hc76 => by (first | (exfalso; omega) | exact absurd hc76 hd))
        refine PW.aload_n rfl rfl dX6_nextToken_227 ?_
        refine PW.iconst (v := nI 0) (by decide) dX6_nextToken_228 ?_
        refine PW.tI hS (by decide) rfl pX6_107 dX6_nextToken_229 (fun hS hw229 => ?_)
        refine PW.aload_n rfl rfl dX6_nextToken_232 ?_
        refine PW.aload_n rfl rfl dX6_nextToken_233 ?_
        refine PW.gR hS.1 (by decide) rfl fX6_7 dX6_nextToken_234 ?_
        refine PW.aload_n rfl rfl dX6_nextToken_237 ?_
        refine PW.gI hS.1 (by decide) rfl ((fi_wF_ne (Or.inr (by decide))).trans h15) fX6_94 dX6_nextToken_238 ?_
        refine PW.aI hS.1 (by decide) rfl (by exact rfl) ⟨by omega, by decide⟩ (iv_wF.trans (hX2.2 a ha)) dX6_nextToken_241 ?_
        refine PW.tI hS (by decide) rfl pX6_104 dX6_nextToken_242 (fun hS hw242 => ?_)
        refine PW.aload_n rfl rfl dX6_nextToken_245 ?_
        refine PW.dup rfl dX6_nextToken_246 ?_
        refine PW.gI hS.1 (by decide) rfl ((fi_wF_ne (Or.inr (by decide))).trans ((fi_wF_ne (Or.inr (by decide))).trans h15)) fX6_94 dX6_nextToken_247 ?_
        refine PW.iconst (v := nI 1) (by decide) dX6_nextToken_250 ?_
        refine PW.iaddN dX6_nextToken_251 ?_
        refine PW.tI hS (by decide) rfl pX6_94 dX6_nextToken_252 (fun hS hw252 => ?_)
        refine PW.vret rfl (Nat.le_refl _) (Nat.le_refl _) dX6_nextToken_255 ?_
        refine ⟨rfl, hS, ((hR2.wF (by decide)).wF (by decide)).wF (by decide), hw252, ?_, ?_, (fi_wF_ne (Or.inr (by decide))).trans ((fi_wF_ne (Or.inr (by decide))).trans ((fi_wF_ne (Or.inr (by decide))).trans h18))⟩
        · rw [fi_wF_ne (Or.inr (by decide)), fi_wF_ne (Or.inr (by decide)), hw229]
          show nI 0 = nI (if f a = 257 then 2 else if f a = 256 then 1 else 0)
          rw [if_neg (by omega), if_neg (by omega)]
        · rw [fi_wF_ne (Or.inr (by decide)), hw242]
          show nI (f a) = nI (if f a = 256 then 0 else if f a < 256 then f a else 0)
          rw [if_neg (by omega), if_pos (by omega)]
end MTOK
