/-! ===== saves: the class's walk ===== -/
def cI (v : Nat) : Int32 := if v < 100000 then nI v else -9
theorem cI_lt {th be : Nat} (h1 : th ≤ 100000) (h2 : be ≤ 100000) (h : th < 100000 ↔ be < 100000) : cI th < cI be ↔ th < be := by
  unfold cI
  by_cases hb : be < 100000
  · rw [if_pos hb, if_pos (h.mpr hb), nI_ltI (by omega) (by omega)]
  · rw [if_neg hb, if_neg (fun q => hb (h.mp q))]
    exact ⟨fun q => absurd q (by decide), fun q => by omega⟩
theorem svT_open {R : DR} (hD : Dat R) {t a k u v : Nat} (ht : t < 6) (hu : u < 6) (hv : v < 6) (ha : a < R 0 0) : svT R t a k (6 * u + v) < 100000 ↔ lstM R t true a k < 100000 := by
  unfold svT
  rw [show (6 * u + v) / 6 = u by omega, show (6 * u + v) % 6 = v by omega, ← (lst_tr hD ht hu hv ha).1, lst_open hD ha]
  exact ((lstX_dst hD (A := 9) (B := 9) (k := k) (t := t) (pr := true) ha).uniq (lstM_dst hD ha) (by decide) (by decide)).1
theorem svN_open {R : DR} (hD : Dat R) {t a k : Nat} (ht : t < 6) (ha : a < R 0 0) : ∀ e, e ≤ 36 → ((svN R t a k e).1 < 100000 ↔ lstM R t true a k < 100000)
  | 0, _ => Iff.rfl
  | e + 1, he => by
    have ih := svN_open hD (k := k) ht ha e (by omega)
    have ho := svT_open hD (k := k) (u := e / 6) (v := e % 6) ht (by omega) (by omega) ha
    rw [show 6 * (e / 6) + e % 6 = e by omega] at ho
    rw [svN]
    split
    · exact ho
    · exact ih
section XSV
variable {b s : Nat} {sc : pw_E} {mem : pw_M} {R : DR} {w : Nat → Nat} {p : Int32} {d : Nat} {e K : Nat}
theorem x_leastC (hS : St b s sc mem) (hX : XD mem b R) (hL : XL mem b R) (hD : Dat R) (hN : XN mem 13 (R 1 0) w p d) (hw : ∀ t, t < R 1 0 → w t < R 0 0) {t k u v : Nat} (ht : t < R 1 0) (hk : k < R 0 0) (hu : u < 6) (hv : v < 6) : Ret 3 0 0 mX5_least [.ref 9, .int (nI t), .int (nI k), .int (nI 1), .int (nI u), .int (nI v)] mem (fun x m1 => x = some (.int (cI (svT R (R 13 t) (w t) k (6 * u + v)))) ∧ St b s sc m1 ∧ Ag (fun r => r ≠ 46) mem m1) := by
  have h := x_least hS hX hL hD hN hw (pr := true) ht hk (A := u) (B := v) (Or.inl hu) (Or.inl hv)
  rw [show bI true = nI 1 from rfl, hI_lt hu, hI_lt hv] at h
  have e1 : (if lstX R (R 13 t) true u v (w t) k < 1000000 then nI (lstX R (R 13 t) true u v (w t) k) else -9) = cI (svT R (R 13 t) (w t) k (6 * u + v)) := by
    obtain ⟨q1, q2⟩ := lst_tr hD (k := k) (hD.2.2.2.2.2.2 t ht).1 hu hv (hw t ht)
    unfold cI svT
    rw [show (6 * u + v) / 6 = u by omega, show (6 * u + v) % 6 = v by omega]
    by_cases hq : lstX R (R 13 t) true u v (w t) k < 1000000
    · rw [if_pos hq, if_pos (q1.mp hq), q2 hq]
    · rw [if_neg hq, if_neg (fun z => hq (q1.mpr z))]
  rw [e1] at h
  exact h
end XSV
