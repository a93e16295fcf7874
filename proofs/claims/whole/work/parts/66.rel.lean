/-! ===== what holds between calls ===== -/
def ok3 (R : DR) (x : (Nat → Nat) × Int32 × Nat) : Prop := (∀ t, t < R 1 0 → x.1 t < R 0 0) ∧ x.2.2 ≤ 999
def CX (m : pw_M) (b : Nat) (R : DR) (w : Nat → Nat) (p : Int32) (d K T : Nat) (h : Hst) (kp : Nat → Bool) (g : Hst) (z : Int64) (L : Nat) (f : Nat → Nat) : Prop := XD m b R ∧ XL m b R ∧ XN m 13 (R 1 0) w p d ∧ HX m (R 1 0) K T h ∧ IX m (R 1 0) kp g ∧ TX m L f ∧ fl m 9 11 = z
def CM (m : pw_M) (R : DR) (w : Nat → Nat) (p : Int32) (d K : Nat) (h : Hst) (kp : Nat → Bool) (g : Hst) (z : Int64) (L : Nat) (f : Nat → Nat) : Prop := MD m R ∧ MN m (R 1 0) w p d ∧ HM m (R 1 0) K h ∧ IM m (R 1 0) kp g ∧ TM m L f ∧ fl m 95 14 = z
def OKD (R : DR) (w : Nat → Nat) (p : Int32) (d K : Nat) (h : Hst) (kp : Nat → Bool) (g : Hst) (L : Nat) (f : Nat → Nat) : Prop := Inv R ∧ ok3 R (w, p, d) ∧ (∀ i, i < K → ok3 R (h i)) ∧ (∀ i, i < 2 → kp i = true → ok3 R (g i)) ∧ L ≤ 200 ∧ ∀ i, i < L → f i < 256
def Rel (sc : pw_E) (m : pw_M) : Prop := ∃ (b s : Nat) (R : DR) (w : Nat → Nat) (p : Int32) (d K T : Nat) (h : Hst) (kp : Nat → Bool) (g : Hst) (z : Int64) (L : Nat) (f : Nat → Nat), St b s sc m ∧ OKD R w p d K h kp g L f ∧ CX m b R w p d K T h kp g z L f ∧ CM m R w p d K h kp g z L f
section RELA
variable {sc : pw_E} {m m1 : pw_M} {b s : Nat} {R : DR} {w : Nat → Nat} {p : Int32} {d K T : Nat} {h : Hst} {kp : Nat → Bool} {g : Hst} {z : Int64} {L : Nat} {f : Nat → Nat} {A : Nat → Prop} {n : Nat}
theorem HM.ag (hh : HM m n K h) (hA : Ag A m m1) (h13 : fi m1 95 13 = fi m 95 13) (h4 : A 104) : HM m1 n K h := by
  refine ⟨h13.trans hh.1, fun i hi => ?_⟩
  simp only [hA.iv h4]
  exact hh.2 i hi
theorem CX.ag (hC : CX m b R w p d K T h kp g z L f) (hb : b = 49 ∨ b = 72) (hA : Ag A m m1) (hq : ∀ r, (9 ≤ r ∧ r ≤ 42 ∧ r ≠ 12) ∨ (b ≤ r ∧ r ≤ b + 22) → A r) : CX m1 b R w p d K T h kp g z L f := by
  obtain ⟨h1, h2, h3, h4, h5, h6, h7⟩ := hC
  exact ⟨h1.ag hA (fun r q1 q2 => hq r (by omega)), h2.ag hA (hq _ (by omega)) (hq _ (by omega)), h3.ag hA (hq _ (by omega)) (hq _ (by omega)), h4.ag hA (hq _ (by omega)) (fun r q1 q2 => hq r (by omega)), h5.ag hA (hq _ (by omega)) (fun r q1 q2 => hq r (by omega)), h6.ag hA (hq _ (by omega)) (hq _ (by omega)), (hA.fl (hq 9 (by omega)) 11).trans h7⟩
theorem CX.lo (hC : CX m b R w p d K T h kp g z L f) (hb : b = 49 ∨ b = 72) (hA : Ag (fun r => r < 95) m m1) : CX m1 b R w p d K T h kp g z L f := hC.ag hb hA (fun r q => by omega)
theorem CM.ag (hC : CM m R w p d K h kp g z L f) (hA : Ag A m m1) (hq : ∀ r, (95 ≤ r ∧ r ≤ 104) ∨ r = 116 ∨ r = 117 → A r) : CM m1 R w p d K h kp g z L f := by
  obtain ⟨h1, h2, h3, h4, h5, h6⟩ := hC
  exact ⟨h1.ag hA (hq _ (by omega)) (fun r q1 q2 => hq r (by omega)), h2.ag hA (hq _ (by omega)), h3.ag hA (hA.fi (hq 95 (by omega)) 13) (hq _ (by omega)), h4.ag hA (hq _ (by omega)) (hq _ (by omega)), h5.ag2 (hA.fi (hq 95 (by omega)) 1) (fun q => hA.iv (hq 96 (by omega)) q), (hA.fl (hq 95 (by omega)) 14).trans h6⟩
theorem CM.hi (hC : CM m R w p d K h kp g z L f) (hA : Ag (fun r => 95 ≤ r) m m1) : CM m1 R w p d K h kp g z L f := hC.ag hA (fun r q => by omega)
end RELA
/-- both answer alike, and what holds between calls holds behind them -/
def Both (hx hm : Nat) (Yx Ym : pw_Y) (av : List Value) (sc : pw_E) (m : pw_M) : Prop := ∃ (v : Int32) (Q1 : pw_M → Prop), Ret hx 0 0 Yx (.ref 9 :: av) m (fun u m1 => u = some (.int v) ∧ Q1 m1) ∧ ∀ m1, Q1 m1 → (Sh m1 ∧ m1[8]? = some sc) ∧ Ret hm 0 0 Ym (.ref 95 :: av) m1 (fun u m2 => u = some (.int v) ∧ Rel sc m2)
section BOTH
variable {sc : pw_E} {m m1 : pw_M} {b s : Nat} {R : DR} {w : Nat → Nat} {p : Int32} {d K T : Nat} {h : Hst} {kp : Nat → Bool} {g : Hst} {z : Int64} {L : Nat} {f : Nat → Nat} {hx hm : Nat} {Yx Ym : pw_Y} {av : List Value} {v : Int32}
theorem Both.rf (hR : Rel sc m) (hS : St b s sc m) (h1 : Rf hx Yx (.ref 9 :: av) m (some (.int v)) m) (h2 : Rf hm Ym (.ref 95 :: av) m (some (.int v)) m) : Both hx hm Yx Ym av sc m :=
  ⟨v, fun m1 => m1 = m, h1.mono (fun u m1 q => q), fun m1 e => by
    subst e
    exact ⟨⟨hS.1, hS.ro (by decide)⟩, h2.mono (fun u m2 q => ⟨q.1, by rw [q.2]; exact hR⟩)⟩⟩
theorem Both.mk {b1 s1 : Nat} {R1 : DR} {w1 : Nat → Nat} {p1 : Int32} {d1 K1 T1 : Nat} {h1 : Hst} {kp1 : Nat → Bool} {g1 : Hst} {z1 : Int64} {L1 : Nat} {f1 : Nat → Nat} (hC : CM m R w p d K h kp g z L f) (hO : OKD R1 w1 p1 d1 K1 h1 kp1 g1 L1 f1) (e1 : Ret hx 0 0 Yx (.ref 9 :: av) m (fun u m1 => u = some (.int v) ∧ St b1 s1 sc m1 ∧ CX m1 b1 R1 w1 p1 d1 K1 T1 h1 kp1 g1 z1 L1 f1 ∧ Ag (fun r => 95 ≤ r) m m1)) (e2 : ∀ m1, St b1 s1 sc m1 → CM m1 R w p d K h kp g z L f → Ret hm 0 0 Ym (.ref 95 :: av) m1 (fun u m2 => u = some (.int v) ∧ St b1 s1 sc m2 ∧ CM m2 R1 w1 p1 d1 K1 h1 kp1 g1 z1 L1 f1 ∧ Ag (fun r => r < 95) m1 m2)) : Both hx hm Yx Ym av sc m :=
  ⟨v, fun m1 => St b1 s1 sc m1 ∧ CX m1 b1 R1 w1 p1 d1 K1 T1 h1 kp1 g1 z1 L1 f1 ∧ Ag (fun r => 95 ≤ r) m m1, e1, fun m1 q => ⟨⟨q.1.1, q.1.ro (by decide)⟩, (e2 m1 q.1 (hC.hi q.2.2)).mono (fun u m2 y => ⟨y.1, b1, s1, R1, w1, p1, d1, K1, T1, h1, kp1, g1, z1, L1, f1, y.2.1, hO, q.2.1.lo q.1.b y.2.2.2, y.2.2.1⟩)⟩⟩
end BOTH
theorem Rel.sh {sc : pw_E} {m : pw_M} (h : Rel sc m) : Sh m ∧ m[8]? = some sc := by
  obtain ⟨b, s, R, w, p, d, K, T, h, kp, g, z, L, f, hS, -⟩ := h
  exact ⟨hS.1, hS.ro (by decide)⟩
section BM
variable {sc : pw_E} {m : pw_M}
theorem b_pocket (hR : Rel sc m) (k x : Int32) : Both 2 2 mX5_pocket mX6_pocket [.int k, .int x] sc m := by
  obtain ⟨b, s, R, w, p, d, K, T, h, kp, g, z, L, f, hS, hO, hC, hM⟩ := id hR
  exact Both.rf hR hS (x_pocket hS hC.1 hO.1.1 hC.2.2.1 hO.2.1.1 k x) (m_pocket hS hM.1 hO.1.1 hM.2.1 hO.2.1.1 k x)
theorem b_thing (hR : Rel sc m) (k x : Int32) : Both 2 6 mX5_thing mX6_thing [.int k, .int x] sc m := by
  obtain ⟨b, s, R, w, p, d, K, T, h, kp, g, z, L, f, hS, hO, hC, hM⟩ := id hR
  exact Both.rf hR hS (x_thing hS hC.1 hC.2.1 hO.1.1 hC.2.2.1 hO.2.1.1 k x) (m_thing hS hM.1 hO.1.1 hM.2.1 hO.2.1.1 k x)
theorem b_letsIn (hR : Rel sc m) (k x : Int32) : Both 2 5 mX5_letsIn mX6_letsIn [.int k, .int x] sc m := by
  obtain ⟨b, s, R, w, p, d, K, T, h, kp, g, z, L, f, hS, hO, hC, hM⟩ := id hR
  exact Both.rf hR hS (x_letsIn hS hC.1 hC.2.1 hO.1.1 k x) (m_letsIn hS hM.1 hO.1.1 k x)
theorem b_fixed (hR : Rel sc m) (x : Int32) : Both 2 4 mX5_fixed mX6_fixed [.int x] sc m := by
  obtain ⟨b, s, R, w, p, d, K, T, h, kp, g, z, L, f, hS, hO, hC, hM⟩ := id hR
  exact Both.rf hR hS (x_fixed hS hC.2.1 x) (m_fixed hS hM.1 hO.1.1 x)
theorem b_now (hR : Rel sc m) (x : Int32) : Both 3 6 mX5_now mX6_now [.int x] sc m := by
  obtain ⟨b, s, R, w, p, d, K, T, h, kp, g, z, L, f, hS, hO, hC, hM⟩ := id hR
  exact Both.rf hR hS (x_now hS hC.1 hC.2.1 hO.1.1 hC.2.2.1 hO.2.1.1 hC.2.2.2.1.2.2.1 x) (m_now hS hM.1 hO.1.1 hM.2.1 hO.2.1.1 hM.2.2.1.1 x)
theorem b_hoard (hR : Rel sc m) (x : Int32) : Both 2 5 mX5_hoard mX6_hoard [.int x] sc m := by
  obtain ⟨b, s, R, w, p, d, K, T, h, kp, g, z, L, f, hS, hO, hC, hM⟩ := id hR
  exact Both.rf hR hS (x_hoard hS hC.1 hC.2.1 hO.1.1 x) (m_hoard hS hM.1 hO.1.1 x)
theorem b_drops (hR : Rel sc m) (k x : Int32) : Both 2 2 mX5_drops mX6_drops [.int k, .int x] sc m := by
  obtain ⟨b, s, R, w, p, d, K, T, h, kp, g, z, L, f, hS, hO, hC, hM⟩ := id hR
  exact Both.rf hR hS (x_drops hS hC.1 hO.1.1 hC.2.2.1 hO.2.1.1 k x) (m_drops hS hM.1 hO.1.1 hM.2.1 hO.2.1.1 k x)
theorem b_lay (hR : Rel sc m) (k x : Int32) : Both 2 2 mX5_lay mX6_lay [.int k, .int x] sc m := by
  obtain ⟨b, s, R, w, p, d, K, T, h, kp, g, z, L, f, hS, hO, hC, hM⟩ := id hR
  exact Both.rf hR hS (x_lay hS hC.1 hO.1.1 hC.2.2.1 hO.2.1.1 k x) (m_lay hS hM.1 hO.1.1 hM.2.1 hO.2.1.1 k x)
theorem b_stitches (hR : Rel sc m) (a c x : Int32) : Both 3 2 mX5_stitches mX6_stitches [.int a, .int c, .int x] sc m := by
  obtain ⟨b, s, R, w, p, d, K, T, h, kp, g, z, L, f, hS, hO, hC, hM⟩ := id hR
  exact Both.rf hR hS (x_stitches hS hC.1 hO.1.1 a c x) (m_stitches hS hM.1 hO.1.1 a c x)
theorem b_count (hR : Rel sc m) (x : Int32) : Both 2 2 mX5_count mX6_count [.int x] sc m := by
  obtain ⟨b, s, R, w, p, d, K, T, h, kp, g, z, L, f, hS, hO, hC, hM⟩ := id hR
  exact Both.rf hR hS (x_count hS hC.1 hC.2.2.2.2.2.1 x) (m_count hS hM.1 hM.2.2.2.2.1 x)
theorem b_way (hR : Rel sc m) (t k x : Int32) : Both 4 6 mX5_way mX6_way [.int t, .int k, .int x] sc m := by
  obtain ⟨b, s, R, w, p, d, K, T, h, kp, g, z, L, f, hS, hO, hC, hM⟩ := id hR
  have hb := hS.b
  refine Both.mk (b1 := b) (s1 := s) hM hO ((x_way hS hC.1 hC.2.1 hO.1.1 hC.2.2.1 hO.2.1.1 t k x).mono (fun u m1 q => ⟨q.1, q.2.1, hC.ag hS.b q.2.2 (fun r y => by omega), q.2.2.mono (fun r (y : 95 ≤ r) => by omega)⟩)) (fun m1 hS1 hM1 => (m_way hS1 hM1.1 hO.1.1 hM1.2.1 hO.2.1.1 t k x).mono (fun u m2 q => ⟨q.1, q.2.1, hM1.ag q.2.2 (fun r y => by omega), q.2.2.mono (fun r (y : r < 95) => by omega)⟩))
theorem b_stow (hR : Rel sc m) (t : Int32) : Both 9 5 mX5_stow mX6_stow [.int t] sc m := by
  obtain ⟨b, s, R, w, p, d, K, T, h, kp, g, z, L, f, hS, hO, hC, hM⟩ := id hR
  have hb := hS.b
  refine Both.mk (b1 := b) (s1 := s) hM hO ((x_stow hS hC.1 hC.2.1 hO.1.1 hC.2.2.1 hO.2.1.1 t).mono (fun u m1 q => ⟨q.1, q.2.1, hC.ag hS.b q.2.2 (fun r y => by omega), q.2.2.mono (fun r (y : 95 ≤ r) => by omega)⟩)) (fun m1 hS1 hM1 => (m_stow hS1 hM1.1 hO.1.1 hM1.2.1 hO.2.1.1 t).mono (fun u m2 q => ⟨q.1, q.2.1, hM1.ag q.2.2 (fun r y => by omega), q.2.2.mono (fun r (y : r < 95) => by omega)⟩))
theorem b_odds (hR : Rel sc m) (t k q n x : Int32) : Both 2 2 mX5_odds mX6_odds [.int t, .int k, .int q, .int n, .int x] sc m := by
  obtain ⟨b, s, R, w, p, d, K, T, h, kp, g, z, L, f, hS, hO, hC, hM⟩ := id hR
  have hb := hS.b
  refine Both.mk (b1 := b) (s1 := s) hM hO ((x_odds hS hC.1 hO.1.1 hC.2.2.1 hO.2.1.1 t k q n x).mono (fun u m1 q => ⟨q.1, q.2.1, hC.ag hS.b q.2.2 (fun r y => by omega), q.2.2.mono (fun r (y : 95 ≤ r) => by omega)⟩)) (fun m1 hS1 hM1 => (m_odds hS1 hM1.1 hO.1.1 hM1.2.1 hO.2.1.1 t k q n x).mono (fun u m2 q => ⟨q.1, q.2.1, hM1.ag q.2.2 (fun r y => by omega), q.2.2.mono (fun r (y : r < 95) => by omega)⟩))
theorem b_saves (hR : Rel sc m) (t k : Int32) : Both 4 6 mX5_saves mX6_saves [.int t, .int k] sc m := by
  obtain ⟨b, s, R, w, p, d, K, T, h, kp, g, z, L, f, hS, hO, hC, hM⟩ := id hR
  have hb := hS.b
  refine Both.mk (b1 := b) (s1 := s) hM hO ((x_saves hS hC.1 hC.2.1 hO.1.1 hC.2.2.1 hO.2.1.1 t k).mono (fun u m1 q => ⟨q.1, q.2.1, hC.ag hS.b q.2.2 (fun r y => by omega), q.2.2.mono (fun r (y : 95 ≤ r) => by omega)⟩)) (fun m1 hS1 hM1 => (m_saves hS1 hM1.1 hO.1.1 hO.1.2.1 hM1.2.1 hO.2.1.1 t k).mono (fun u m2 q => ⟨q.1, q.2.1, ⟨q.2.2.2, hM1.2.1.ag q.2.2.1 (by decide), hM1.2.2.1.ag q.2.2.1 (q.2.2.1.fi (by decide) 13) (by decide), hM1.2.2.2.1.ag q.2.2.1 (by decide) (by decide), hM1.2.2.2.2.1.ag2 (q.2.2.1.fi (by decide) 1) (fun y => q.2.2.1.iv (by decide) y), (q.2.2.1.fl (by decide) 14).trans hM1.2.2.2.2.2⟩, q.2.2.1.mono (fun r (y : r < 95) => by omega)⟩))
theorem b_rate (hR : Rel sc m) (i k : Int32) : Both 4 3 mX5_rate mX6_rate [.int i, .int k] sc m := by
  obtain ⟨b, s, R, w, p, d, K, T, h, kp, g, z, L, f, hS, hO, hC, hM⟩ := id hR
  have hb := hS.b
  refine Both.mk (b1 := b) (s1 := s) hM hO ((x_rate hS hC.1 hO.1.1 hC.2.2.1 hO.2.1.1 hC.2.2.2.2.2.2 i k).mono (fun u m1 q => ⟨q.1, q.2.1, ⟨hC.1.ag q.2.2.1 (fun r y1 y2 => by omega), hC.2.1.ag q.2.2.1 (by omega) (by omega), hC.2.2.1.ag q.2.2.1 (by decide) (by decide), hC.2.2.2.1.ag q.2.2.1 (by decide) (fun r y1 y2 => by omega), hC.2.2.2.2.1.ag q.2.2.1 (by decide) (fun r y1 y2 => by omega), hC.2.2.2.2.2.1.ag q.2.2.1 (by decide) (by decide), q.2.2.2⟩, q.2.2.1.mono (fun r (y : 95 ≤ r) => by omega)⟩)) (fun m1 hS1 hM1 => (m_rate hS1 hM1.1 hO.1.1 hM1.2.1 hO.2.1.1 hM1.2.2.2.2.2 i k).mono (fun u m2 q => ⟨q.1, q.2.1, ⟨hM1.1.ag2 q.2.2.1 (fi_fv (q.2.2.2.1 3 (by decide))) (fi_fv (q.2.2.2.1 10 (by decide))) (fi_fv (q.2.2.2.1 6 (by decide))) (fun r y1 y2 => by omega), hM1.2.1.ag q.2.2.1 (by decide), hM1.2.2.1.ag q.2.2.1 (fi_fv (q.2.2.2.1 13 (by decide))) (by decide), hM1.2.2.2.1.ag q.2.2.1 (by decide) (by decide), hM1.2.2.2.2.1.ag2 (fi_fv (q.2.2.2.1 1 (by decide))) (fun y => q.2.2.1.iv (by decide) y), q.2.2.2.2⟩, q.2.2.1.mono (fun r (y : r < 95) => by omega)⟩))
end BM
