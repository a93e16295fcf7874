/-! ===== calls that change something ===== -/
section RELB
variable {sc : pw_E} {m m1 : pw_M} {b s : Nat} {R : DR} {w w1 : Nat → Nat} {p p1 : Int32} {d d1 K K1 T T1 : Nat} {h h1 : Hst} {kp kp1 : Nat → Bool} {g g1 : Hst} {z : Int64} {L L1 : Nat} {f f1 : Nat → Nat}
theorem CX.text (hC : CX m b R w p d K T h kp g z L f) (hb : b = 49 ∨ b = 72) (hA : Ag (fun q => q ≠ 10 ∧ q ≠ 11) m m1) (hT : TX m1 L1 f1) : CX m1 b R w p d K T h kp g z L1 f1 :=
  ⟨hC.1.ag hA (fun r y1 y2 => by omega), hC.2.1.ag hA (by omega) (by omega), hC.2.2.1.ag hA (by decide) (by decide), hC.2.2.2.1.ag hA (by decide) (fun r y1 y2 => by omega), hC.2.2.2.2.1.ag hA (by decide) (fun r y1 y2 => by omega), hT, (hA.fl (by decide) 11).trans hC.2.2.2.2.2.2⟩
theorem CM.text (hC : CM m R w p d K h kp g z L f) (hA : Ag (fun q => q ≠ 95 ∧ q ≠ 96) m m1) (hv : ∀ j, j ≠ 1 → fv m1 95 j = fv m 95 j) (hT : TM m1 L1 f1) : CM m1 R w p d K h kp g z L1 f1 :=
  ⟨hC.1.ag2 hA (fi_fv (hv 3 (by decide))) (fi_fv (hv 10 (by decide))) (fi_fv (hv 6 (by decide))) (fun r y1 y2 => by omega), hC.2.1.ag hA (by decide), hC.2.2.1.ag hA (fi_fv (hv 13 (by decide))) (by decide), hC.2.2.2.1.ag hA (by decide) (by decide), hT, (fl_fv (hv 14 (by decide))).trans hC.2.2.2.2.2⟩
theorem CX.deed (hC : CX m b R w p d K T h kp g z L f) (hb : b = 49 ∨ b = 72) (hA : Ag (fun q => q ≠ 15 ∧ q ≠ 13 ∧ q ≠ 14 ∧ (q < 17 ∨ 36 < q)) m m1) (hH : HX m1 (R 1 0) K1 T1 h1) (hN : XN m1 13 (R 1 0) w1 p1 d1) : CX m1 b R w1 p1 d1 K1 T1 h1 kp g z L f :=
  ⟨hC.1.ag hA (fun r y1 y2 => by omega), hC.2.1.ag hA (by omega) (by omega), hN, hH, hC.2.2.2.2.1.ag hA (by decide) (fun r y1 y2 => by omega), hC.2.2.2.2.2.1.ag hA (by decide) (by decide), (hA.fl (by decide) 11).trans hC.2.2.2.2.2.2⟩
theorem CM.deed (hC : CM m R w p d K h kp g z L f) (hA : Ag (fun q => q ≠ 95 ∧ q ≠ 103 ∧ q ≠ 104) m m1) (hv : ∀ j, j ≠ 13 → fv m1 95 j = fv m 95 j) (hH : HM m1 (R 1 0) K1 h1) (hN : MN m1 (R 1 0) w1 p1 d1) : CM m1 R w1 p1 d1 K1 h1 kp g z L f :=
  ⟨hC.1.ag2 hA (fi_fv (hv 3 (by decide))) (fi_fv (hv 10 (by decide))) (fi_fv (hv 6 (by decide))) (fun r y1 y2 => by omega), hN, hH, hC.2.2.2.1.ag hA (by decide) (by decide), hC.2.2.2.2.1.ag2 (fi_fv (hv 1 (by decide))) (fun y => hA.iv (by decide) y), (fl_fv (hv 14 (by decide))).trans hC.2.2.2.2.2⟩
theorem CX.img (hC : CX m b R w p d K T h kp g z L f) (hb : b = 49 ∨ b = 72) (hA : Ag (fun q => q ≠ 42 ∧ (q < 38 ∨ 41 < q)) m m1) (hI : IX m1 (R 1 0) kp1 g1) : CX m1 b R w p d K T h kp1 g1 z L f :=
  ⟨hC.1.ag hA (fun r y1 y2 => by omega), hC.2.1.ag hA (by omega) (by omega), hC.2.2.1.ag hA (by decide) (by decide), hC.2.2.2.1.ag hA (by decide) (fun r y1 y2 => by omega), hI, hC.2.2.2.2.2.1.ag hA (by decide) (by decide), (hA.fl (by decide) 11).trans hC.2.2.2.2.2.2⟩
theorem CM.img (hC : CM m R w p d K h kp g z L f) (hA : Ag (fun q => q ≠ 116 ∧ q ≠ 117) m m1) (hI : IM m1 (R 1 0) kp1 g1) : CM m1 R w p d K h kp1 g1 z L f :=
  ⟨hC.1.ag hA (by decide) (fun r y1 y2 => by omega), hC.2.1.ag hA (by decide), hC.2.2.1.ag hA (hA.fi (by decide) 13) (by decide), hI, hC.2.2.2.2.1.ag2 (hA.fi (by decide) 1) (fun y => hA.iv (by decide) y), (hA.fl (by decide) 14).trans hC.2.2.2.2.2⟩
theorem ok_push {x : (Nat → Nat) × Int32 × Nat} (hK : K ≤ 10) (ho : ∀ i, i < K → ok3 R (h i)) (hx : ok3 R x) : ∀ i, i < hK1 K + 1 → ok3 R (hpush K h x i) := by
  intro i hi
  unfold hpush
  unfold hK1 at hi ⊢
  by_cases h10 : K = 10
  · rw [if_pos h10] at hi ⊢
    by_cases hi9 : i < 9
    · rw [if_pos hi9, if_pos h10]; exact ho _ (by omega)
    · rw [if_neg hi9]; exact hx
  · rw [if_neg h10] at hi ⊢
    by_cases hiK : i < K
    · rw [if_pos hiK, if_neg h10]; exact ho _ hiK
    · rw [if_neg hiK]; exact hx
end RELB
theorem rdl_inv {f : Nat → Nat} {n : Nat} : ∀ (k : Nat) (t : Nat × Nat × Nat × Nat) (R : DR) (it : Nat), Inv R → Inv (rdl f n k t R it).2.2
  | 0, _, _, _, hI => hI
  | k + 1, t, R, it, hI => by
    rw [rdl]
    by_cases h1 : t.1 = 257
    · rw [if_pos h1]; exact hI
    · rw [if_neg h1]
      by_cases h2 : (itm f n t R).1 = true
      · rw [if_pos h2]; exact rdl_inv k _ _ _ (itm_inv hI h2)
      · rw [if_neg h2]; exact hI
section BM2
variable {sc : pw_E} {m : pw_M}
theorem b_type (hR : Rel sc m) (i : Int32) : Both 2 2 mX5_type mX6_type [.int i] sc m := by
  obtain ⟨b, s, R, w, p, d, K, T, h, kp, g, z, L, f, hS, hO, hC, hM⟩ := id hR
  cases hi : inR i 256
  · exact Both.rf hR hS (x_type_bad hS i hi) (m_type_bad hS i hi)
  obtain ⟨j, hj, rfl⟩ := inR_of hi
  have hL := hO.2.2.2.2.1
  by_cases h200 : L = 200
  · subst h200
    exact Both.rf hR hS (x_type_no hS hC.2.2.2.2.2.1 hj) (m_type_no hS hM.2.2.2.2.1 hj)
  refine Both.mk (b1 := b) (s1 := s) (L1 := L + 1) (f1 := tset f L j) hM ⟨hO.1, hO.2.1, hO.2.2.1, hO.2.2.2.1, by omega, fun y hy => ?_⟩ ((x_type_ok hS hC.2.2.2.2.2.1 (by omega) hj).mono (fun u m1 q => ⟨q.1, q.2.1, hC.text hS.b q.2.2.1 q.2.2.2, q.2.2.1.mono (fun r (y : 95 ≤ r) => ⟨by omega, by omega⟩)⟩)) (fun m1 hS1 hM1 => (m_type_ok hS1 hM1.2.2.2.2.1 (by omega) hj).mono (fun u m2 q => ⟨q.1, q.2.1, hM1.text q.2.2.1 q.2.2.2.1 q.2.2.2.2, q.2.2.1.mono (fun r (y : r < 95) => ⟨by omega, by omega⟩)⟩))
  unfold tset
  by_cases e : y = L
  · rw [if_pos e]; exact hj
  · rw [if_neg e]; exact hO.2.2.2.2.2 y (by omega)
theorem b_clear (hR : Rel sc m) : Both 2 2 mX5_clear mX6_clear [] sc m := by
  obtain ⟨b, s, R, w, p, d, K, T, h, kp, g, z, L, f, hS, hO, hC, hM⟩ := id hR
  exact Both.mk (b1 := b) (s1 := s) (L1 := 0) (f1 := f) hM ⟨hO.1, hO.2.1, hO.2.2.1, hO.2.2.2.1, by omega, fun y hy => absurd hy (Nat.not_lt_zero _)⟩ ((x_clear hS hC.2.2.2.2.2.1).mono (fun u m1 q => ⟨q.1, q.2.1, hC.text hS.b (q.2.2.1.mono (fun r y => y.1)) q.2.2.2, q.2.2.1.mono (fun r (y : 95 ≤ r) => by omega)⟩)) (fun m1 hS1 hM1 => (m_clear hS1 hM1.2.2.2.2.1).mono (fun u m2 q => ⟨q.1, q.2.1, hM1.text (q.2.2.1.mono (fun r y => y.1)) q.2.2.2.1 q.2.2.2.2, q.2.2.1.mono (fun r (y : r < 95) => by omega)⟩))
theorem b_moves (hR : Rel sc m) (t k : Int32) : Both 3 5 mX5_moves mX6_moves [.int t, .int k] sc m := by
  obtain ⟨b, s, R, w, p, d, K, T, h, kp, g, z, L, f, hS, hO, hC, hM⟩ := id hR
  have hK := hC.2.2.2.1.1
  cases hg : (inR t (R 1 0) && inR k (R 0 0))
  · exact Both.rf hR hS (x_moves_bad hS hC.1 hO.1.1 t k hg) (m_moves_bad hS hM.1 hO.1.1 t k hg)
  obtain ⟨g1, g2⟩ := Bool.and_eq_true_iff.mp hg
  obtain ⟨t, ht, rfl⟩ := inR_of g1
  obtain ⟨k, hk, rfl⟩ := inR_of g2
  cases hc : canB R w t k
  · exact Both.rf hR hS (x_moves_no hS hC.1 hC.2.1 hO.1.1 hC.2.2.1 hO.2.1.1 ht hk hc) (m_moves_no hS hM.1 hO.1.1 hM.2.1 hO.2.1.1 ht hk hc)
  refine Both.mk (b1 := b) (s1 := s) (w1 := putW w t k) (p1 := p + nI (prcN R (w t) k (R 13 t))) (d1 := d) hM ⟨hO.1, ⟨fun y hy => ?_, hO.2.1.2⟩, ok_push hK hO.2.2.1 hO.2.1, hO.2.2.2⟩ ((x_moves_ok hS hC.1 hC.2.1 hO.1.1 hC.2.2.1 hC.2.2.2.1 hO.2.1.1 ht hk hc).mono (fun u m1 q => ⟨q.1, q.2.1, hC.deed hS.b q.2.2.1 q.2.2.2.1 q.2.2.2.2, q.2.2.1.mono (fun r (y : 95 ≤ r) => by omega)⟩)) (fun m1 hS1 hM1 => (m_moves_ok hS1 hM1.1 hO.1.1 hM1.2.1 hK hM1.2.2.1 hO.2.1.1 ht hk hc).mono (fun u m2 q => ⟨q.1, q.2.1, hM1.deed q.2.2.1 q.2.2.2.1 q.2.2.2.2.1 q.2.2.2.2.2, q.2.2.1.mono (fun r (y : r < 95) => by omega)⟩))
  show putW w t k y < R 0 0
  unfold putW
  by_cases e : y = t
  · rw [if_pos e]; exact hk
  · rw [if_neg e]; exact hO.2.1.1 y hy
theorem b_night (hR : Rel sc m) : Both 3 3 mX5_night mX6_night [] sc m := by
  obtain ⟨b, s, R, w, p, d, K, T, h, kp, g, z, L, f, hS, hO, hC, hM⟩ := id hR
  have hK := hC.2.2.2.1.1
  have hd : d ≤ 999 := hO.2.1.2
  by_cases h9 : d = 999
  · exact Both.rf hR hS (x_night_no hS hC.2.2.1 h9) (m_night_no hS hM.2.1 h9)
  exact Both.mk (b1 := b) (s1 := s) hM ⟨hO.1, ⟨fun y hy => ngW_lt hO.1.1 hO.2.1.1 (R 1 0) (Nat.le_refl _) y hy, by show d + 1 ≤ 999; omega⟩, ok_push hK hO.2.2.1 hO.2.1, hO.2.2.2⟩ ((x_night_ok hS hC.1 hO.1.1 hC.2.2.1 hC.2.2.2.1 hO.2.1.1 (by omega)).mono (fun u m1 q => ⟨q.1, q.2.1, hC.deed hS.b q.2.2.1 q.2.2.2.1 q.2.2.2.2, q.2.2.1.mono (fun r (y : 95 ≤ r) => by omega)⟩)) (fun m1 hS1 hM1 => (m_night_ok hS1 hM1.1 hO.1.1 hM1.2.1 hK hM1.2.2.1 hO.2.1.1 (by omega)).mono (fun u m2 q => ⟨q.1, q.2.1, hM1.deed q.2.2.1 q.2.2.2.1 q.2.2.2.2.1 q.2.2.2.2.2, q.2.2.1.mono (fun r (y : r < 95) => by omega)⟩))
theorem b_undo (hR : Rel sc m) : Both 3 0 mX5_undo mX6_undo [] sc m := by
  obtain ⟨b, s, R, w, p, d, K, T, h, kp, g, z, L, f, hS, hO, hC, hM⟩ := id hR
  have hK := hC.2.2.2.1.1
  have hT6 := hO.1.1.2.1
  cases K with
  | zero => exact Both.rf hR hS (x_undo0 hS hC.2.2.2.1) (m_undo0 hS hM.2.2.1)
  | succ K =>
    exact Both.mk (b1 := b) (s1 := s) hM ⟨hO.1, hO.2.2.1 K (Nat.lt_succ_self K), fun i hi => hO.2.2.1 i (by omega), hO.2.2.2⟩ ((x_undoH hS hT6 hC.2.2.2.1).mono (fun u m1 q => ⟨q.1, q.2.1, hC.deed hS.b (q.2.2.1.mono (fun r y => ⟨y.1, y.2.1, y.2.2.1⟩)) q.2.2.2.1 q.2.2.2.2, q.2.2.1.mono (fun r (y : 95 ≤ r) => by omega)⟩)) (fun m1 hS1 hM1 => (m_undoH hS1 hT6 hK hM1.2.2.1).mono (fun u m2 q => ⟨q.1, q.2.1, hM1.deed (q.2.2.1.mono (fun r y => ⟨y.1, y.2.1⟩)) q.2.2.2.1 q.2.2.2.2.1 q.2.2.2.2.2, q.2.2.1.mono (fun r (y : r < 95) => by omega)⟩))
theorem b_keep (hR : Rel sc m) (i : Int32) : Both 2 2 mX5_keep mX6_keep [.int i] sc m := by
  obtain ⟨b, s, R, w, p, d, K, T, h, kp, g, z, L, f, hS, hO, hC, hM⟩ := id hR
  have hT6 := hO.1.1.2.1
  cases hi : inR i 2
  · exact Both.rf hR hS (x_keep_bad hS i hi) (m_keep_bad hS i hi)
  obtain ⟨j, hj, rfl⟩ := inR_of hi
  refine Both.mk (b1 := b) (s1 := s) hM ⟨hO.1, hO.2.1, hO.2.2.1, fun y hy hk => ?_, hO.2.2.2.2⟩ ((x_keep_ok hS hT6 hC.2.2.1 hC.2.2.2.2.1 hj).mono (fun u m1 q => ⟨q.1, q.2.1, hC.img hS.b q.2.2.1 q.2.2.2, q.2.2.1.mono (fun r (y : 95 ≤ r) => by omega)⟩)) (fun m1 hS1 hM1 => (m_keep_ok hS1 hT6 hM1.2.1 hM1.2.2.2.1 hj).mono (fun u m2 q => ⟨q.1, q.2.1, hM1.img q.2.2.1 q.2.2.2, q.2.2.1.mono (fun r (y : r < 95) => by omega)⟩))
  unfold gset
  unfold kset at hk
  by_cases e : y = j
  · rw [if_pos e]; exact hO.2.1
  · rw [if_neg e] at hk ⊢; exact hO.2.2.2.1 y hy hk
theorem b_back (hR : Rel sc m) (i : Int32) : Both 2 2 mX5_back mX6_back [.int i] sc m := by
  obtain ⟨b, s, R, w, p, d, K, T, h, kp, g, z, L, f, hS, hO, hC, hM⟩ := id hR
  have hT6 := hO.1.1.2.1
  cases hi : inR i 2
  · exact Both.rf hR hS (x_back_bad hS i hi) (m_back_bad hS i hi)
  obtain ⟨j, hj, rfl⟩ := inR_of hi
  cases hk : kp j
  · exact Both.rf hR hS (x_back_no hS hC.2.2.2.2.1 hj hk) (m_back_no hS hM.2.2.2.1 hj hk)
  exact Both.mk (b1 := b) (s1 := s) (T1 := T) (h1 := h) hM ⟨hO.1, hO.2.2.2.1 j hj hk, fun i hi => absurd hi (Nat.not_lt_zero _), hO.2.2.2⟩ ((x_back_ok (h := h) hS hT6 hC.2.2.2.2.1 ⟨hC.2.2.2.1.2.2.2.1, hC.2.2.2.1.2.1⟩ hj hk).mono (fun u m1 q => ⟨q.1, q.2.1, hC.deed hS.b (q.2.2.1.mono (fun r y => ⟨y.2.1, y.2.2.1, y.1⟩)) q.2.2.2.2 q.2.2.2.1, q.2.2.1.mono (fun r (y : 95 ≤ r) => by omega)⟩)) (fun m1 hS1 hM1 => (m_back_ok (h := h) hS1 hT6 hM1.2.2.2.1 hj hk).mono (fun u m2 q => ⟨q.1, q.2.1, hM1.deed (q.2.2.1.mono (fun r y => ⟨y.1, y.2.1⟩)) q.2.2.2.1 q.2.2.2.2.2 q.2.2.2.2.1, q.2.2.1.mono (fun r (y : r < 95) => by omega)⟩))
theorem b_realm (hR : Rel sc m) : Both 6 6 mX5_realm mX6_realm [] sc m := by
  obtain ⟨b, s, R, w, p, d, K, T, h, kp, g, z, L, f, hS, hO, hC, hM⟩ := id hR
  have hb := hS.b
  have hs := hS.s
  have hfar := hS.far
  have hL := hO.2.2.2.2.1
  have hf := hO.2.2.2.2.2
  cases hr : (rlm f L).1
  · exact Both.mk (b1 := b) (s1 := s) (T1 := T) hM hO ((x_realm_no hS hC.2.2.2.2.2.1 hL hf hr).mono (fun u m1 q => ⟨q.1, q.2.1, ⟨hC.1.ag q.2.2.1 (fun r y1 y2 => ⟨by omega, by omega, by omega⟩), hC.2.1.ag q.2.2.1 ⟨by omega, by omega, by omega⟩ ⟨by omega, by omega, by omega⟩, hC.2.2.1.ag q.2.2.1 ⟨by omega, by omega, by omega⟩ ⟨by omega, by omega, by omega⟩, hC.2.2.2.1.ag q.2.2.1 ⟨by omega, by omega, by omega⟩ (fun r y1 y2 => ⟨by omega, by omega, by omega⟩), hC.2.2.2.2.1.ag q.2.2.1 ⟨by omega, by omega, by omega⟩ (fun r y1 y2 => ⟨by omega, by omega, by omega⟩), q.2.2.2, (q.2.2.1.fl (r := 9) ⟨by omega, by omega, by omega⟩ 11).trans hC.2.2.2.2.2.2⟩, q.2.2.1.mono (fun r (y : 95 ≤ r) => ⟨by omega, by omega, by omega⟩)⟩)) (fun m1 hS1 hM1 => (m_realm_no hS1 hM1.2.2.2.2.1 hL hf hr).mono (fun u m2 q => ⟨q.1, q.2.1, ⟨hM1.1.ag2 q.2.2.1 (fi_fv (q.2.2.2 3 (by omega))) (fi_fv (q.2.2.2 10 (by omega))) (fi_fv (q.2.2.2 6 (by omega))) (fun r y1 y2 => ⟨by omega, by omega⟩), hM1.2.1.ag q.2.2.1 ⟨by omega, by omega⟩, hM1.2.2.1.ag q.2.2.1 (fi_fv (q.2.2.2 13 (by omega))) ⟨by omega, by omega⟩, hM1.2.2.2.1.ag q.2.2.1 ⟨by omega, by omega⟩ ⟨by omega, by omega⟩, hM1.2.2.2.2.1.mr q.2.2, (fl_fv (q.2.2.2 14 (by omega))).trans hM1.2.2.2.2.2⟩, q.2.2.1.mono (fun r (y : r < 95) => ⟨by omega, by omega⟩)⟩))
  · have hI : Inv (rlm f L).2.2 := rdl_inv _ _ _ _ Inv_R0
    exact Both.mk (b1 := s) (s1 := b) (T1 := T) (h1 := h) (kp1 := fun _ => false) (g1 := g) (L1 := 0) (f1 := f) hM ⟨hI, ⟨fun t ht => (hI.1.2.2.2.2.2.2 t ht).2.2.2.2, by show 0 ≤ 999; decide⟩, fun i hi => absurd hi (Nat.not_lt_zero _), fun i hi hk => Bool.noConfusion hk, by decide, fun i hi => absurd hi (Nat.not_lt_zero _)⟩ ((x_realm_ok hS hC.2.2.2.2.2.1 hL hf hr).mono (fun u m1 q => ⟨q.1, q.2.1, ⟨q.2.2.1, q.2.2.2.1, q.2.2.2.2.1, ⟨by decide, hC.2.2.2.1.2.1, q.2.2.2.2.2.1, q.2.2.2.2.2.2.1.trans hC.2.2.2.1.2.2.2.1, fun i hi => absurd hi (Nat.not_lt_zero _)⟩, fun i hi => ⟨q.2.2.2.2.2.2.2.1 i hi, fun hk => Bool.noConfusion hk⟩, q.2.2.2.2.2.2.2.2.1, q.2.2.2.2.2.2.2.2.2.1.trans hC.2.2.2.2.2.2⟩, q.2.2.2.2.2.2.2.2.2.2.2⟩)) (fun m1 hS1 hM1 => (m_realm_ok hS1 hM1.2.2.2.2.1 hL hf hr).mono (fun u m2 q => ⟨q.1, q.2.1, ⟨q.2.2.1, q.2.2.2.1, ⟨q.2.2.2.2.1, fun i hi => absurd hi (Nat.not_lt_zero _)⟩, fun i hi => ⟨q.2.2.2.2.2.1 i hi, fun hk => Bool.noConfusion hk⟩, q.2.2.2.2.2.2.1, q.2.2.2.2.2.2.2.1.trans hM1.2.2.2.2.2⟩, q.2.2.2.2.2.2.2.2⟩))
end BM2
