/-! ===== the law from its entry ===== -/
def tyL : List FieldType := [.int, .boolean, .long, .object "PocketLaws$Now", .array .int]
section BEGN
variable {s : State} {b : Nat}
theorem cls_all (htp : ∀ w ∈ pw_tbl, w.before #[Value.ref b] s = true) : ∀ c : Nat, ∃ x : ClassId × (Nat → Nat), ∀ q, vwCl[c]? = some q → u_Kn s q.1 q.2.1 q.2.2 x.1 x.2
  | 0 => kn_of nX5_16 htp
  | 1 => kn_of nX5_23 htp
  | 2 => kn_of nX5_55 htp
  | 3 => kn_of nX5_38 htp
  | 4 => kn_of nX5_7 htp
  | 5 => kn_of nL_7 htp
  | 6 => kn_of nL_10 htp
  | _ + 7 => ⟨(0, fun _ => 0), fun q h => by cases h⟩
theorem prim_of {t : FieldType} (h : (Cond.arrayClass t).before #[Value.ref b] s = true) (hR : ∀ cA, va_RA s cA t = (s.vm.findClass ("[" ++ t.toString) = some cA)) : ∃ cA : ClassId, ArrOfT s cA t ∧ va_RA s cA t := by
  obtain ⟨c, k, comp, h1, h2, h3⟩ := Cond.arrayClass_spec h
  exact ⟨c, arr_of h2 h3, by rw [hR]; exact h1⟩
theorem ty_all (hts : ∀ w ∈ lw_tbl, w.before #[Value.ref b] s = true) : ∀ k : Nat, ∃ cA : ClassId, ∀ ty, tyL[k]? = some ty → ArrOfT s cA ty ∧ va_RA s cA ty
  | 0 => by
    obtain ⟨c, h⟩ := prim_of (t := .int) (hts _ (List.mem_filter.mp qA_int).1) (fun _ => rfl)
    exact ⟨c, fun ty e => by cases e; exact h⟩
  | 1 => by
    obtain ⟨c, h⟩ := prim_of (t := .boolean) (hts _ (List.mem_filter.mp qA_boolean).1) (fun _ => rfl)
    exact ⟨c, fun ty e => by cases e; exact h⟩
  | 2 => by
    obtain ⟨c, h⟩ := prim_of (t := .long) (hts _ (List.mem_filter.mp qA_long).1) (fun _ => rfl)
    exact ⟨c, fun ty e => by cases e; exact h⟩
  | 3 => by
    have h := hts (Cond.arrayOver (.object "PocketLaws$Now")) (by decide +kernel)
    obtain ⟨comp, c, k, h1, h2, h3, h4, h5⟩ := Cond.arrayOver_spec h
    exact ⟨c, fun ty e => by cases e; exact ⟨arr_of h3 h4, k, comp, h3, h4, h1, h5⟩⟩
  | 4 => by
    obtain ⟨c, k, comp, h1, h2, h3⟩ := ao_arr (hts (Cond.arrayOver (.array .int)) (by decide +kernel))
    exact ⟨c, fun ty e => by cases e; exact ⟨arr_of h1 h2, h3⟩⟩
  | _ + 5 => ⟨0, fun ty e => by cases e⟩
theorem row_all (hts : ∀ w ∈ lw_tbl, w.before #[Value.ref b] s = true) (hgv : (Jvm.Cond.and given_1 narrow_1).before #[Value.ref b] s = true) : ∀ k : Nat, ∃ t : Nat, k < 8 → (∀ n f, RO8[k]? = some (.inl (0, n, .inl f)) → va_T .int t n (fun j => .int (f j)) (fun q => s.heap.size ≤ q) s s.heap) ∧ va_Z "PocketLaws$Text" (pw_sn k) "[I" (.ref t) (fun q => s.heap.size ≤ q) s s.heap
  | 0 => by
    obtain ⟨t, h1, h2⟩ := st_0 hts hgv
    exact ⟨t, fun _ => ⟨fun n f e => by cases e; exact h1, h2⟩⟩
  | 1 => by
    obtain ⟨t, h1, h2⟩ := st_1 hts hgv
    exact ⟨t, fun _ => ⟨fun n f e => by cases e; exact h1, h2⟩⟩
  | 2 => by
    obtain ⟨t, h1, h2⟩ := st_2 hts hgv
    exact ⟨t, fun _ => ⟨fun n f e => by cases e; exact h1, h2⟩⟩
  | 3 => by
    obtain ⟨t, h1, h2⟩ := st_3 hts hgv
    exact ⟨t, fun _ => ⟨fun n f e => by cases e; exact h1, h2⟩⟩
  | 4 => by
    obtain ⟨t, h1, h2⟩ := st_4 hts hgv
    exact ⟨t, fun _ => ⟨fun n f e => by cases e; exact h1, h2⟩⟩
  | 5 => by
    obtain ⟨t, h1, h2⟩ := st_5 hts hgv
    exact ⟨t, fun _ => ⟨fun n f e => by cases e; exact h1, h2⟩⟩
  | 6 => by
    obtain ⟨t, h1, h2⟩ := st_6 hts hgv
    exact ⟨t, fun _ => ⟨fun n f e => by cases e; exact h1, h2⟩⟩
  | 7 => by
    obtain ⟨t, h1, h2⟩ := st_7 hts hgv
    exact ⟨t, fun _ => ⟨fun n f e => by cases e; exact h1, h2⟩⟩
  | _ + 8 => ⟨0, fun h => by omega⟩
theorem beg_N (hts : ∀ w ∈ lw_tbl, w.before #[Value.ref b] s = true) : pw_N s :=
  ⟨fun a i x h hx => va_Nw.of rfl (hts _ hx), va_AO.of (hts (Cond.arrayOver (.object "PocketLaws$Now")) (by decide +kernel)), hts (Cond.arrayOver (.array .int)) (by decide +kernel)⟩
end BEGN
set_option maxHeartbeats 4000000 in
theorem whole_start {p : Program} {e : Env} {s : State} {m : MethodId} {below : List Frame} {meth : Method} {c : Code} (l : Launch) (hflags : l.flags = flags0) {b L : Nat} {xs : Nat → Int32} (hL : L ≤ 3072) (C0 : lw_At p s m meth c b L xs) : W p l e room_1 s m #[Value.ref b] below meth c s.heap [] 0 0 (lw_Z below #[Value.ref b] s) (entryFrame m ([Value.ref b] : List Value).toArray 4) := by
  obtain ⟨hx, hcode, hret, hml, hown, hts, hXs, hbl, hlocks, hgv⟩ := C0
  have htp : ∀ w ∈ pw_tbl, w.before #[Value.ref b] s = true := fun w hw => hts w (List.mem_filter.mp hw).1
  have hcl := cls_all htp
  have hty := ty_all hts
  have hrw := row_all hts hgv
  let G : pw_G := ((fun c => (Classical.choose (hcl c)).1, fun c => (Classical.choose (hcl c)).2), fun k => Classical.choose (hty k), s.heap.size, fun r => if r < 8 then Classical.choose (hrw r) else b)
  have hWd : pw_Wd G (RO8 ++ [.inl (0, L, .inl xs)]) s s.heap := by
    refine ⟨Nat.le_refl 9, rfl, fun k q h => (by cases h), ⟨fun c q hq => Classical.choose_spec (hcl c) q hq, fun k q hk => ?_⟩, ?_, fun k hk => ?_⟩
    · have h5 : k < 5 := (List.getElem?_eq_some_iff.mp hk).1
      have h5 : k = 0 ∨ k = 1 ∨ k = 2 ∨ k = 3 ∨ k = 4 := by omega
      rcases h5 with rfl | rfl | rfl | rfl | rfl <;> cases hk
      · exact Classical.choose_spec (hty 0) _ rfl
      · exact Classical.choose_spec (hty 1) _ rfl
      · exact Classical.choose_spec (hty 2) _ rfl
      · exact Classical.choose_spec (hty 3) _ rfl
      · exact Classical.choose_spec (hty 4) _ rfl
    · intro r n f hr hm
      by_cases h8 : r < 8
      · have e : G.2.2.2 r = Classical.choose (hrw r) := if_pos h8
        rw [e]
        rw [List.getElem?_append_left (by show r < 8; exact h8)] at hm
        exact (Classical.choose_spec (hrw r) h8).1 n f hm
      · have e8 : r = 8 := by omega
        subst e8
        have e : G.2.2.2 8 = b := rfl
        rw [e]
        cases hm
        obtain ⟨scr, h1, h2, h3, h4, h5⟩ := hXs
        exact ⟨scr, h1, h2, h3, by omega, by rw [h4], h5, fun q => by have q : s.heap.size ≤ b := q; omega⟩
    · have e : G.2.2.2 k = Classical.choose (hrw k) := if_pos hk
      rw [e]
      exact (Classical.choose_spec (hrw k) hk).2
  have hl := lv_entry ([Value.ref 8].map (pw_v G)) (n := 4) (Nat.le_of_ble_eq_true rfl)
  rw [pw_args] at hl
  have he : ([Value.ref 8].map (pw_v G)) = [Value.ref b] := rfl
  have K := p_law (nm := meth.name) (l := l) (G := G) (N := L) (xs := xs) hL p e s m #[Value.ref b] below meth c s.heap [] _ ⟨hx, hcode, hml, hret, hlocks, rfl, hown, htp, beg_N hts⟩ hWd va_S.rf (Nat.le_refl _) hl
  have hE : entryFrame m ([Value.ref b] : List Value).toArray 4 = _ := lg_entry_eq m [Value.ref b] 4
  rw [hE]
  intro T hT X
  obtain ⟨t, k1, o, k2, k3, ⟨v, m1, k4, k5, k6, k7⟩, L0, k8, k9⟩ := K T hT X
  subst k5
  exact ⟨t, k1, o, k2, k3, k4, k8.1, k8.2.1, k8.2.2.weaken (fun y hy hlt => absurd hlt (Nat.not_lt.mpr (k9 y hy))) (Nat.le_refl _) (Nat.le_refl _)⟩
