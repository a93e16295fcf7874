/-! ===== the first realm while the model is not made yet ===== -/
def Sp (mem : pw_M) : Prop := ∀ r, 49 ≤ r ∧ r < 72 → ∀ x, SK[r - 9]? = some x → ∃ e, mem[r]? = some e ∧ sk1 e = x
theorem Sp.arr {mem : pw_M} (h : Sp mem) {r t n : Nat} (h9 : 49 ≤ r ∧ r < 72) (hx : SK[r - 9]? = some (.inl (0, t, n, []))) : mem[r]? = some (.inl (t, n, .inl (iv mem r))) := by
  obtain ⟨e, h1, h2⟩ := h r h9 _ hx
  rcases e with ⟨t', n', f | f | f⟩ | ⟨c, vs⟩
  · simp only [sk1, Sum.inl.injEq, Prod.mk.injEq] at h2
    obtain ⟨-, rfl, rfl, -⟩ := h2
    have e2 : iv mem r = f := by funext j; simp only [iv, h1]
    rw [e2, h1]
  · simp [sk1] at h2
  · simp [sk1] at h2
  · simp [sk1] at h2
theorem Sp.arrQ {mem : pw_M} (h : Sp mem) {r t n : Nat} {l : List (Option Nat)} (h9 : 49 ≤ r ∧ r < 72) (hx : SK[r - 9]? = some (.inl (2, t, n, l))) : ∃ f, mem[r]? = some (.inl (t, n, .inr (.inr f))) ∧ ∀ j, j < n → f j = l.getD j none := by
  obtain ⟨e, h1, h2⟩ := h r h9 _ hx
  rcases e with ⟨t', n', f | f | f⟩ | ⟨c, vs⟩
  · simp [sk1] at h2
  · simp [sk1] at h2
  · simp only [sk1, Sum.inl.injEq, Prod.mk.injEq] at h2
    obtain ⟨-, rfl, rfl, rfl⟩ := h2
    exact ⟨f, h1, fun j hj => by simp [List.getD_eq_getElem?_getD, hj]⟩
  · simp [sk1] at h2
theorem Sp.obj {mem : pw_M} (h : Sp mem) {r ci j : Nat} {v : Value} (h9 : 49 ≤ r ∧ r < 72) (hx : skf r ci j = some v) : ∃ vs, mem[r]? = some (.inr (ci, vs)) ∧ (if ci = 5 then ((vs.map sv).set 9 .null).set 10 .null else vs.map sv)[j]? = some v := by
  unfold skf at hx
  cases hs : SK[r - 9]? with
  | none => rw [hs] at hx; cases hx
  | some x =>
    rw [hs] at hx
    rcases x with x | ⟨c, vs0⟩
    · cases hx
    · obtain ⟨e, h1, h2⟩ := h r h9 _ hs
      by_cases hc : c = ci
      · subst hc
        simp only [if_pos] at hx
        rcases e with ⟨t', n', f | f | f⟩ | ⟨c', vs⟩
        · simp [sk1] at h2
        · simp [sk1] at h2
        · simp [sk1] at h2
        · simp only [sk1, Sum.inr.injEq, Prod.mk.injEq] at h2
          obtain ⟨rfl, rfl⟩ := h2
          exact ⟨vs, h1, hx⟩
      · simp only [if_neg hc] at hx
        cases hx
theorem Sp.int {mem : pw_M} (h : Sp mem) {r ci j : Nat} (h9 : 49 ≤ r ∧ r < 72) (hx : skf r ci j = some (.int 0)) : ∃ vs, mem[r]? = some (.inr (ci, vs)) ∧ vs[j]? = some (.int (fi mem r j)) := by
  obtain ⟨vs, h1, h2⟩ := h.obj h9 hx
  obtain ⟨u, h3, h4⟩ := skf_get h2 (fun e => by cases e)
  refine ⟨vs, h1, ?_⟩
  have e : fv mem r j = u := by simp only [fv, h1, List.getD_eq_getElem?_getD, h3]; rfl
  cases u <;> simp [sv] at h4
  simp only [fi, e, h3]
theorem Sp.ref {mem : pw_M} (h : Sp mem) {r ci j q : Nat} (h9 : 49 ≤ r ∧ r < 72) (hx : skf r ci j = some (.ref q)) : ∃ vs, mem[r]? = some (.inr (ci, vs)) ∧ vs[j]? = some (.ref q) := by
  obtain ⟨vs, h1, h2⟩ := h.obj h9 hx
  obtain ⟨u, h3, h4⟩ := skf_get h2 (fun e => by cases e)
  refine ⟨vs, h1, ?_⟩
  cases u <;> simp [sv] at h4
  rw [h3, h4]
theorem Sp.set {mem : pw_M} (h : Sp mem) {r : Nat} {x y : pw_E} (hr : mem[r]? = some x) (hxy : sk1 y = sk1 x) : Sp (mem.set r y) := by
  intro q hq z hz
  obtain ⟨e, h1, h2⟩ := h q hq z hz
  by_cases c : q = r
  · subst c
    rw [hr] at h1
    cases h1
    exact ⟨y, get_set_eq hr, hxy.trans h2⟩
  · exact ⟨e, by rw [get_set_ne c]; exact h1, h2⟩
theorem Sp.wI {mem : pw_M} (h : Sp mem) (r j : Nat) (x : Int32) : Sp (wI mem r j x) := by
  unfold _root_.Jvm.Pilot.@@N@@.wI
  split
  · rename_i t n f hr
    exact h.set hr rfl
  · exact h
theorem Sp.wFI {mem : pw_M} (h : Sp mem) {r ci j : Nat} (h9 : 49 ≤ r ∧ r < 72) (hx : skf r ci j = some (.int 0)) (x : Int32) : Sp (wF mem r j (.int x)) := by
  obtain ⟨vs, h1, h2⟩ := h.int h9 hx
  have e : wF mem r j (.int x) = mem.set r (.inr (ci, vs.set j (.int x))) := by simp only [wF, h1]
  rw [e]
  refine h.set h1 ?_
  simp only [sk1]
  rw [set_sv (v := .int x) h2 rfl]
theorem Sp.iv_wI {mem : pw_M} (h : Sp mem) {r t n j j' : Nat} {x : Int32} (h9 : 49 ≤ r ∧ r < 72) (hx : SK[r - 9]? = some (.inl (0, t, n, []))) : iv (_root_.Jvm.Pilot.@@N@@.wI mem r j x) r j' = if j' = j then x else iv mem r j' := by
  have h1 := h.arr h9 hx
  have e : _root_.Jvm.Pilot.@@N@@.wI mem r j x = mem.set r (.inl (t, n, .inl (upd (iv mem r) j x))) := by simp only [_root_.Jvm.Pilot.@@N@@.wI, h1]
  rw [e]
  simp only [iv, get_set_eq h1, upd]
theorem Sp.fi_wF {mem : pw_M} (h : Sp mem) {r ci j : Nat} {x : Int32} (h9 : 49 ≤ r ∧ r < 72) (hx : skf r ci j = some (.int 0)) : fi (wF mem r j (.int x)) r j = x := by
  obtain ⟨vs, h1, h2⟩ := h.int h9 hx
  have e : wF mem r j (.int x) = mem.set r (.inr (ci, vs.set j (.int x))) := by simp only [wF, h1]
  have hl := (List.getElem?_eq_some_iff.mp h2).1
  rw [e]
  simp [fi, fv, get_set_eq h1, List.getD_eq_getElem?_getD, List.getElem?_set, hl]
section PWP
variable {l : Launch} {G : pw_G} {Y : pw_Y} {R : Room} {mc ms k n pc : Nat} {ls : List (Nat × Value)} {st : List Value} {mem : pw_M} {Q : Option Value → pw_M → Prop}
theorem PW.pgI {idx ci j r : Nat} {x : Int32} (hS : Sp mem) (h9 : 49 ≤ r ∧ r < 72) (hr : skf r ci j = some (.int 0)) (hv : fi mem r j = x) (hs : pw_F Y.1.cls idx ci j) (d : decode Y.2.1 pc = .ok (.getfield idx, 3)) (kk : PW (l, G, Y, R, mc, ms) k n (pc + 3) ls (.int x :: st) mem Q) : PW (l, G, Y, R, mc, ms) k n pc ls (.ref r :: st) mem Q := by
  obtain ⟨vs, h1, h2⟩ := hS.int h9 hr
  exact PW.get hs (by omega) h1 h2 d (by rw [hv]; exact kk)
theorem PW.pgR {idx ci j r q : Nat} (hS : Sp mem) (h9 : 49 ≤ r ∧ r < 72) (hr : skf r ci j = some (.ref q)) (hs : pw_F Y.1.cls idx ci j) (d : decode Y.2.1 pc = .ok (.getfield idx, 3)) (kk : PW (l, G, Y, R, mc, ms) k n (pc + 3) ls (.ref q :: st) mem Q) : PW (l, G, Y, R, mc, ms) k n pc ls (.ref r :: st) mem Q := by
  obtain ⟨vs, h1, h2⟩ := hS.ref h9 hr
  exact PW.get hs (by omega) h1 h2 d kk
theorem PW.ptI {idx ci j r : Nat} {x : Int32} (hS : Sp mem) (h9 : 49 ≤ r ∧ r < 72) (hr : skf r ci j = some (.int 0)) (hs : pw_FP Y.1.cls idx ci j .int false) (d : decode Y.2.1 pc = .ok (.putfield idx, 3)) (kk : Sp (wF mem r j (.int x)) → fi (wF mem r j (.int x)) r j = x → PW (l, G, Y, R, mc, ms) k n (pc + 3) ls st (wF mem r j (.int x)) Q) : PW (l, G, Y, R, mc, ms) k n pc ls (.int x :: .ref r :: st) mem Q := by
  have k2 := kk (hS.wFI h9 hr x) (hS.fi_wF h9 hr)
  obtain ⟨vs, h1, h2⟩ := hS.int h9 hr
  have e : wF mem r j (.int x) = mem.set r (.inr (ci, vs.set j (.int x))) := by simp only [wF, h1]
  rw [e] at k2
  exact PW.put hs (fun G => ⟨rfl, rfl⟩) (by omega) h1 (List.getElem?_eq_some_iff.mp h2).1 d k2
theorem PW.paQ {r N j q : Nat} {i : Int32} {t0 : Nat} {ty : FieldType} {ql : List (Option Nat)} (hS : Sp mem) (h9 : 49 ≤ r ∧ r < 72) (hr : SK[r - 9]? = some (.inl (2, t0, N, ql))) (ht : ∀ G : pw_G, (pw_tys G)[t0]? = some (G.2.1 t0, ty)) (hty : ty.isReference = true) (hi : i = nI j) (hj : j < N ∧ N < 1000) (hq : ql.getD j none = some q) (d : decode Y.2.1 pc = .ok (.aaload, 1)) (kk : PW (l, G, Y, R, mc, ms) k n (pc + 1) ls (.ref q :: st) mem Q) : PW (l, G, Y, R, mc, ms) k n pc ls (.int i :: .ref r :: st) mem Q := by
  subst hi
  have hc : (nI j).toNatClampNeg = j := nI_clamp (by omega)
  obtain ⟨f, h1, h2⟩ := hS.arrQ h9 hr
  exact PW.aald (by omega) h1 ht hty (vp_in_nI hj.1 (by omega)) (by rw [hc, h2 j hj.1]; exact hq) d kk
theorem PW.puI {r N j : Nat} {i x : Int32} (hS : Sp mem) (h9 : 49 ≤ r ∧ r < 72) (hr : SK[r - 9]? = some (.inl (0, 0, N, []))) (hi : i = nI j) (hj : j < N ∧ N < 1000) (d : decode Y.2.1 pc = .ok (.iastore, 1)) (kk : Sp (wI mem r j x) → (∀ i, iv (wI mem r j x) r i = if i = j then x else iv mem r i) → PW (l, G, Y, R, mc, ms) k n (pc + 1) ls st (wI mem r j x) Q) : PW (l, G, Y, R, mc, ms) k n pc ls (.int x :: .int i :: .ref r :: st) mem Q := by
  subst hi
  have hc : (nI j).toNatClampNeg = j := nI_clamp (by omega)
  have k2 := kk (hS.wI r j x) (fun i => hS.iv_wI h9 hr)
  have h1 := hS.arr h9 hr
  have e : wI mem r j x = mem.set r (.inl (0, N, .inl (upd (iv mem r) j x))) := by simp only [wI, h1]
  rw [e] at k2
  exact PW.iast (by omega) h1 (vp_in_nI hj.1 (by omega)) d (by rw [hc]; exact k2)
theorem PW.palen {r N t0 : Nat} {x : (Nat → Int32) ⊕ (Nat → Int64) ⊕ (Nat → Option Nat)} {ty : FieldType} (hm : mem[r]? = some (.inl (t0, N, x))) (h9 : 49 ≤ r ∧ r < 72) (ht : ∀ G : pw_G, (pw_tys G)[t0]? = some (G.2.1 t0, ty)) (d : decode Y.2.1 pc = .ok (.arraylength, 1)) (kk : PW (l, G, Y, R, mc, ms) k n (pc + 1) ls (.int (Int32.ofNat N) :: st) mem Q) : PW (l, G, Y, R, mc, ms) k n pc ls (.ref r :: st) mem Q := (PW.alen) hm (by omega) ht d kk
theorem PW.pcV {Y' : pw_Y} {h' idx nA b : Nat} {ci j : Nat} {st0 : List Value} {r : Option Value} {mem1 : pw_M} {u : Value} (av : List Value) (hS : Sp mem) (h9 : 49 ≤ b ∧ b < 72) (hb : skf b ci j = some u) (hs : pw_CV Y.1.cls idx Y' nA) (hM : Rf h' Y' (.ref b :: av) mem r mem1) (hst : st0 = av.reverse ++ .ref b :: st) (hn : av.length = nA) (hr : (st.map fun v => v.category).sum ≤ 8) (hC : vwCl[ci]?.map (fun q => q.1) = some Y'.1.cls)
    (hh : h' + 1 ≤ R.frames ∧ 100 * h' + 100 ≤ R.locals) (hc : k ≤ R.cells ∧ n ≤ R.slots) (d : decode Y.2.1 pc = .ok (.invokevirtual idx, 3)) (kk : PW (l, G, Y, R, mc, ms) k n (pc + 3) ls (r.toList ++ st) mem1 Q) : PW (l, G, Y, R, mc, ms) k n pc ls st0 mem Q := by
  obtain ⟨vs, h1, h2⟩ := hS.obj h9 hb
  exact PW.callV av hs hM hst hn hr (by omega) h1 hC hh hc d (fun v m1 q => by obtain ⟨rfl, rfl⟩ := q; exact kk)
theorem PW.pdV {Y' : pw_Y} {h' idx nA e : Nat} {ci j : Nat} {st0 : List Value} {Q' : Option Value → pw_M → Prop} {u : Value} (av : List Value) (hS : Sp mem) (h9 : 49 ≤ e ∧ e < 72) (hb : skf e ci j = some u) (hs : pw_CV Y.1.cls idx Y' nA) (hM : Ret h' 0 0 Y' (.ref e :: av) mem Q') (hst : st0 = av.reverse ++ .ref e :: st) (hn : av.length = nA) (hr : (st.map fun v => v.category).sum ≤ 8) (hC : vwCl[ci]?.map (fun q => q.1) = some Y'.1.cls)
    (hh : h' + 1 ≤ R.frames ∧ 100 * h' + 100 ≤ R.locals) (hc : k ≤ R.cells ∧ n ≤ R.slots) (d : decode Y.2.1 pc = .ok (.invokevirtual idx, 3)) (kk : ∀ v mem1, Q' v mem1 → PW (l, G, Y, R, mc, ms) k n (pc + 3) ls (v.toList ++ st) mem1 Q) : PW (l, G, Y, R, mc, ms) k n pc ls st0 mem Q := by
  obtain ⟨vs, h1, h2⟩ := hS.obj h9 hb
  exact PW.callV av hs hM hst hn hr (by omega) h1 hC hh hc d kk
end PWP
section XP
variable {mem : pw_M}
set_option maxHeartbeats 4000000 in
theorem p_fill (hS : Sp mem) {r : Nat} (h9 : 49 ≤ r ∧ r < 72) (hr : SK[r - 9]? = some (.inl (0, 0, 6, []))) (x : Int32) : Ret 0 0 0 mJ7_fill_53178 [.ref r, .int x] mem (fun u m1 => u = none ∧ Sp m1 ∧ Ag (fun q => q ≠ r) mem m1 ∧ ∀ i, i < 6 → iv m1 r i = x) := by
  refine Ret.of (by decide) (Nat.le_of_ble_eq_true rfl) fun l G => ?_
  show PW _ _ _ _ [(0, _), (1, _)] _ _ _
  refine PW.iconst (v := nI 0) (by decide) dJ7_fill_53178_0 ?_
  refine PW.istore_n rfl (by decide) dJ7_fill_53178_1 (?_ : PW _ _ _ _ [(0, _), (1, _), (2, _)] _ _ _)
  refine PW.aload_n rfl rfl dJ7_fill_53178_2 ?_
  refine PW.palen (hS.arr h9 hr) h9 (fun _ => rfl) dJ7_fill_53178_3 ?_
  refine PW.istore_n rfl (by decide) dJ7_fill_53178_4 (?_ : PW _ _ _ _ [(0, _), (1, _), (2, _), (3, _)] _ _ _)
  refine PW.loop (I := fun j m => Sp m ∧ Ag (fun q => q ≠ r) mem m ∧ ∀ i, i < j → iv m r i = x) (fun j _ => [(0, .ref r), (1, .int x), (2, .int (nI j)), (3, .int (nI 6))]) (fun _ m => m) 6 (fun j m hj hI ih => ?_) (fun m hI => ?_) mem ⟨hS, Ag.rf, fun i hi => absurd hi (Nat.not_lt_zero _)⟩
  · obtain ⟨hS, hA, hv⟩ := hI
    refine PW.iload_n rfl rfl dJ7_fill_53178_5 ?_
    refine PW.iload_n rfl rfl dJ7_fill_53178_6 ?_
    refine PW.icmp_geN 20 (by decide) (by first | omega | (split <;> omega)) (by first | omega | (split <;> omega)) dJ7_fill_53178_7 (fun hc7 => by exfalso; omega) (fun hc7 => ?_)
    refine PW.aload_n rfl rfl dJ7_fill_53178_10 ?_
    refine PW.iload_n rfl rfl dJ7_fill_53178_11 ?_
    refine PW.iload_n rfl rfl dJ7_fill_53178_12 ?_
    refine PW.puI hS h9 hr (by exact rfl) ⟨by omega, by decide⟩ dJ7_fill_53178_13 (fun hS hw13 => ?_)
    refine PW.iincN rfl (by decide) dJ7_fill_53178_14 (?_ : PW _ _ _ _ [(0, _), (1, _), (2, _), (3, _)] _ _ _)
    refine PW.goto 5 (by decide) dJ7_fill_53178_17 ?_
    refine ih _ ⟨hS, hA.tr (Ag.wI (fun h => h rfl)), fun i hi => ?_⟩
    rw [hw13]
    by_cases e : i = j
    · rw [if_pos e]
    · rw [if_neg e]; exact hv i (by omega)
  · obtain ⟨hS, hA, hv⟩ := hI
    refine PW.iload_n rfl rfl dJ7_fill_53178_5 ?_
    refine PW.iload_n rfl rfl dJ7_fill_53178_6 ?_
    refine PW.icmp_geN 20 (by decide) (by first | omega | (split <;> omega)) (by first | omega | (split <;> omega)) dJ7_fill_53178_7 (fun hc7 => ?_) (fun hc7 => by exfalso; omega)
    refine PW.vret rfl (Nat.le_refl _) (Nat.le_refl _) dJ7_fill_53178_20 ?_
    exact ⟨rfl, hS, hA, hv⟩
set_option maxHeartbeats 8000000 in
theorem p_forgetAll (hS : Sp mem) : Ret 1 0 0 mX2_forgetAll [.ref 49] mem (fun v m1 => v = none ∧ Sp m1 ∧ Ag (fun r => r < 49 ∨ 69 < r) mem m1 ∧ XD m1 49 R0) := by
  refine Ret.of (by decide) (Nat.le_of_ble_eq_true rfl) fun l G => ?_
  show PW _ _ _ _ [(0, _)] _ _ _
  refine PW.aload_n rfl rfl dX2_forgetAll_0 ?_
  refine PW.iconst (v := nI 0) (by decide) dX2_forgetAll_1 ?_
  refine PW.ptI hS (by decide) rfl pX2_62 dX2_forgetAll_2 (fun hS hw2 => ?_)
  refine PW.aload_n rfl rfl dX2_forgetAll_5 ?_
  refine PW.iconst (v := nI 0) (by decide) dX2_forgetAll_6 ?_
  refine PW.ptI hS (by decide) rfl pX2_66 dX2_forgetAll_7 (fun hS hw7 => ?_)
  refine PW.aload_n rfl rfl dX2_forgetAll_10 ?_
  refine PW.iconst (v := nI 0) (by decide) dX2_forgetAll_11 ?_
  refine PW.ptI hS (by decide) rfl pX2_69 dX2_forgetAll_12 (fun hS hw12 => ?_)
  refine PW.aload_n rfl rfl dX2_forgetAll_15 ?_
  refine PW.pgR hS (by decide) rfl fX2_24 dX2_forgetAll_16 ?_
  refine PW.iconst (v := nI 0) (by decide) dX2_forgetAll_19 ?_
  refine PW.dS _ kX2_72 (p_fill hS (r := 54) (by decide) rfl (nI 0)) rfl rfl (Nat.le_of_ble_eq_true rfl) ⟨by decide, by decide⟩ ⟨Nat.zero_le _, Nat.zero_le _⟩ dX2_forgetAll_20 (fun v m1 q => ?_)
  obtain ⟨rfl, hS, hA1, hf1⟩ := q
  refine PW.aload_n rfl rfl dX2_forgetAll_23 ?_
  refine PW.pgR hS (by decide) rfl fX2_30 dX2_forgetAll_24 ?_
  refine PW.iconst (v := nI 0) (by decide) dX2_forgetAll_27 ?_
  refine PW.dS _ kX2_72 (p_fill hS (r := 56) (by decide) rfl (nI 0)) rfl rfl (Nat.le_of_ble_eq_true rfl) ⟨by decide, by decide⟩ ⟨Nat.zero_le _, Nat.zero_le _⟩ dX2_forgetAll_28 (fun v m1 q => ?_)
  obtain ⟨rfl, hS, hA2, hf2⟩ := q
  refine PW.aload_n rfl rfl dX2_forgetAll_31 ?_
  refine PW.pgR hS (by decide) rfl fX2_33 dX2_forgetAll_32 ?_
  refine PW.bipush (v := -9) (by decide) dX2_forgetAll_35 ?_
  refine PW.dS _ kX2_72 (p_fill hS (r := 57) (by decide) rfl (-9)) rfl rfl (Nat.le_of_ble_eq_true rfl) ⟨by decide, by decide⟩ ⟨Nat.zero_le _, Nat.zero_le _⟩ dX2_forgetAll_37 (fun v m1 q => ?_)
  obtain ⟨rfl, hS, hA3, hf3⟩ := q
  refine PW.iconst (v := nI 0) (by decide) dX2_forgetAll_40 ?_
  refine PW.istore_n rfl (by decide) dX2_forgetAll_41 (?_ : PW _ _ _ _ [(0, _), (1, _)] _ _ _)
  skip
  have hA : Ag (fun r => r < 49 ∨ 69 < r) mem _ := (((((Ag.wF (r := 49) (j := 0) (v := .int (nI 0)) (by omega)).tr (Ag.wF (r := 49) (j := 1) (v := .int (nI 0)) (by omega))).tr (Ag.wF (r := 49) (j := 2) (v := .int (nI 0)) (by omega))).tr (hA1.mono (fun r h => by omega))).tr (hA2.mono (fun r h => by omega))).tr (hA3.mono (fun r h => by omega))
  have q0 : fi m1 49 0 = nI 0 := by rw [hA3.fi (by decide), hA2.fi (by decide), hA1.fi (by decide), fi_wF_ne (Or.inr (by decide)), fi_wF_ne (Or.inr (by decide))]; exact hw2
  have q1 : fi m1 49 1 = nI 0 := by rw [hA3.fi (by decide), hA2.fi (by decide), hA1.fi (by decide), fi_wF_ne (Or.inr (by decide))]; exact hw7
  have q2 : fi m1 49 2 = nI 0 := by rw [hA3.fi (by decide), hA2.fi (by decide), hA1.fi (by decide)]; exact hw12
  have q5 : ∀ k, k < 6 → iv m1 54 k = nI 0 := fun k hk => by rw [hA3.iv (by decide), hA2.iv (by decide)]; exact hf1 k hk
  have q7 : ∀ k, k < 6 → iv m1 56 k = nI 0 := fun k hk => by rw [hA3.iv (by decide)]; exact hf2 k hk
  refine PW.loop (I := fun k m => Sp m ∧ Ag (fun r => r < 60 ∨ 65 < r) m1 m ∧ ∀ a c, a < k → c < 6 → iv m (49 + 11 + a) c = nI 0) (fun k _ => [(0, .ref 49), (1, .int (nI k))]) (fun _ m => m) 6 (fun k m hk hI ih => ?_) (fun m hI => ?_) _ ⟨hS, Ag.rf, fun a c h => absurd h (Nat.not_lt_zero _)⟩
  · obtain ⟨hS, hB, hv⟩ := hI
    refine PW.iload_n rfl rfl dX2_forgetAll_42 ?_
    refine PW.bipush (v := nI 6) (by decide) dX2_forgetAll_43 ?_
    refine PW.icmp_geN 64 (by decide) (by first | omega | (split <;> omega)) (by first | omega | (split <;> omega)) dX2_forgetAll_45 (fun hc45 => by exfalso; omega) (fun hc45 => ?_)
    refine PW.aload_n rfl rfl dX2_forgetAll_48 ?_
    refine PW.pgR hS (by decide) rfl fX2_41 dX2_forgetAll_49 ?_
    refine PW.iload_n rfl rfl dX2_forgetAll_52 ?_
    refine PW.paQ hS (by decide) rfl (fun _ => rfl) rfl (by exact rfl) ⟨by omega, by decide⟩ (akRq (b := 49) (by omega)) dX2_forgetAll_53 ?_
    refine PW.iconst (v := nI 0) (by decide) dX2_forgetAll_54 ?_
    refine PW.dS _ kX2_72 (p_fill hS (r := 49 + 11 + k) (by omega) (akRt (Or.inl rfl) hk) (nI 0)) rfl rfl (Nat.le_of_ble_eq_true rfl) ⟨by decide, by decide⟩ ⟨Nat.zero_le _, Nat.zero_le _⟩ dX2_forgetAll_55 (fun v m1 q => ?_)
    obtain ⟨rfl, hS, hA4, hf4⟩ := q
    refine PW.iincN rfl (by decide) dX2_forgetAll_58 (?_ : PW _ _ _ _ [(0, _), (1, _)] _ _ _)
    refine PW.goto 42 (by decide) dX2_forgetAll_61 ?_
    refine ih _ ⟨hS, hB.tr (hA4.mono (fun r h => by omega)), fun a c ha hc => ?_⟩
    by_cases q : a = k
    · rw [q]; exact hf4 c hc
    · rw [hA4.iv (by omega)]; exact hv a c (by omega) hc
  · obtain ⟨hS, hB, hv⟩ := hI
    refine PW.iload_n rfl rfl dX2_forgetAll_42 ?_
    refine PW.bipush (v := nI 6) (by decide) dX2_forgetAll_43 ?_
    refine PW.icmp_geN 64 (by decide) (by first | omega | (split <;> omega)) (by first | omega | (split <;> omega)) dX2_forgetAll_45 (fun hc45 => ?_) (fun hc45 => by exfalso; omega)
    refine PW.vret rfl (Nat.le_refl _) (Nat.le_refl _) dX2_forgetAll_64 ?_
    refine ⟨rfl, hS, hA.tr (hB.mono (fun r h => by omega)), ?_⟩
    refine ⟨by rw [hB.fi (by decide)]; exact q0, by rw [hB.fi (by decide)]; exact q1, by rw [hB.fi (by decide)]; exact q2, fun k hk => absurd hk (Nat.not_lt_zero _), fun k hk => ⟨by rw [hB.iv (by decide)]; exact q5 k hk, fun h => absurd rfl h, by rw [hB.iv (by decide)]; exact q7 k hk, by rw [hB.iv (by decide)]; exact hf3 k hk, fun h => absurd rfl h⟩, fun a c ha hc => hv a c ha hc, fun t ht => absurd ht (Nat.not_lt_zero _)⟩
set_option maxHeartbeats 4000000 in
theorem p_allHold (hS : Sp mem) (h0 : fi mem 49 0 = nI 0) (a c : Int32) : Rf 0 mX2_allHold [.ref 49, .int a, .int c] mem (some (.int (bI true))) mem := by
  refine Ret.of (by decide) (Nat.le_of_ble_eq_true rfl) fun l G => ?_
  show PW _ _ _ _ [(0, _), (1, _), (2, _)] _ _ _
  refine PW.iconst (v := nI 0) (by decide) dX2_allHold_0 ?_
  refine PW.istore_n rfl (by decide) dX2_allHold_1 (?_ : PW _ _ _ _ [(0, _), (1, _), (2, _), (3, _)] _ _ _)
  refine PW.iload_n rfl rfl dX2_allHold_2 ?_
  refine PW.aload_n rfl rfl dX2_allHold_3 ?_
  refine PW.pgI hS (by decide) rfl (h0) fX2_62 dX2_allHold_4 ?_
  refine PW.icmp_geN 33 (by decide) (by first | omega | (split <;> omega)) (by first | omega | (split <;> omega)) dX2_allHold_7 (fun hc7 => ?_) (fun hc7 => by exfalso; omega)
  refine PW.iconst (v := nI 1) (by decide) dX2_allHold_33 ?_
  refine PW.zret rfl (by first | exact bI_nar _ | rfl) (Nat.le_refl _) (Nat.le_refl _) dX2_allHold_34 ?_
  exact ⟨rfl, rfl⟩
set_option maxHeartbeats 4000000 in
theorem p_settleLawsOf (hS : Sp mem) (h0 : fi mem 49 0 = nI 0) {t : Nat} (ht : t < 6) : Ret 1 0 0 mX2_settleLawsOf [.ref 49, .int (nI t)] mem (fun v m1 => v = none ∧ Sp m1 ∧ Ag (fun r => r ≠ 71) mem m1 ∧ ∀ i, iv m1 71 i = if i = t then nI 1 else iv mem 71 i) := by
  refine Ret.of (by decide) (Nat.le_of_ble_eq_true rfl) fun l G => ?_
  show PW _ _ _ _ [(0, _), (1, _)] _ _ _
  refine PW.iconst (v := nI 0) (by decide) dX2_settleLawsOf_0 ?_
  refine PW.istore_n rfl (by decide) dX2_settleLawsOf_1 (?_ : PW _ _ _ _ [(0, _), (1, _), (2, _)] _ _ _)
  refine PW.iconst (v := nI 1) (by decide) dX2_settleLawsOf_2 ?_
  refine PW.aload_n rfl rfl dX2_settleLawsOf_3 ?_
  refine PW.pgI hS (by decide) rfl (h0) fX2_62 dX2_settleLawsOf_4 ?_
  refine PW.ishl1 (by omega) dX2_settleLawsOf_7 ?_
  refine PW.iconst (v := nI 1) (by decide) dX2_settleLawsOf_8 ?_
  refine PW.isubN (by omega) dX2_settleLawsOf_9 ?_
  refine PW.istore_n rfl (by decide) dX2_settleLawsOf_10 (?_ : PW _ _ _ _ [(0, _), (1, _), (2, _), (3, _)] _ _ _)
  refine PW.iconst (v := nI 0) (by decide) dX2_settleLawsOf_11 ?_
  refine PW.istore (by decide) dX2_settleLawsOf_12 (?_ : PW _ _ _ _ [(0, _), (1, _), (2, _), (3, _), (4, _)] _ _ _)
  skip
  refine PW.iload rfl dX2_settleLawsOf_14 ?_
  refine PW.iconst (v := nI 1) (by decide) dX2_settleLawsOf_16 ?_
  refine PW.aload_n rfl rfl dX2_settleLawsOf_17 ?_
  refine PW.pgI hS (by decide) rfl (h0) fX2_62 dX2_settleLawsOf_18 ?_
  refine PW.ishl1 (by omega) dX2_settleLawsOf_21 ?_
  refine PW.icmp_geN 49 (by decide) (by first | omega | (split <;> omega)) (by first | omega | (split <;> omega)) dX2_settleLawsOf_22 (fun hc22 => by (first | (exfalso; omega) | cases hc22)) (fun hc22 => ?_)
  refine PW.aload_n rfl rfl dX2_settleLawsOf_25 ?_
  refine PW.iload rfl dX2_settleLawsOf_26 ?_
  refine PW.iload_n rfl rfl dX2_settleLawsOf_28 ?_
  refine PW.pcV (ci := 2) (j := 0) _ hS (by decide) rfl kX2_103 (p_allHold hS h0 _ _) rfl rfl (Nat.le_of_ble_eq_true rfl) rfl ⟨by decide, by decide⟩ ⟨Nat.zero_le _, Nat.zero_le _⟩ dX2_settleLawsOf_29 ?_
  refine PW.if_eqB 43 (by decide) dX2_settleLawsOf_32 (fun hc32 => by (first | (exfalso; omega) | cases hc32)) (fun hc32 => ?_)
  refine PW.iincN rfl (by decide) dX2_settleLawsOf_35 (?_ : PW _ _ _ _ [(0, _), (1, _), (2, _), (3, _), (4, _)] _ _ _)
  refine PW.iload_n rfl rfl dX2_settleLawsOf_38 ?_
  refine PW.iload rfl dX2_settleLawsOf_39 ?_
  refine PW.iandN dX2_settleLawsOf_41 ?_
  refine PW.istore_n rfl (by decide) dX2_settleLawsOf_42 (?_ : PW _ _ _ _ [(0, _), (1, _), (2, _), (3, _), (4, _)] _ _ _)
  refine PW.iincN rfl (by decide) dX2_settleLawsOf_43 (?_ : PW _ _ _ _ [(0, _), (1, _), (2, _), (3, _), (4, _)] _ _ _)
  refine PW.goto 14 (by decide) dX2_settleLawsOf_46 ?_
  skip
  refine PW.iload rfl dX2_settleLawsOf_14 ?_
  refine PW.iconst (v := nI 1) (by decide) dX2_settleLawsOf_16 ?_
  refine PW.aload_n rfl rfl dX2_settleLawsOf_17 ?_
  refine PW.pgI hS (by decide) rfl (h0) fX2_62 dX2_settleLawsOf_18 ?_
  refine PW.ishl1 (by omega) dX2_settleLawsOf_21 ?_
  refine PW.icmp_geN 49 (by decide) (by first | omega | (split <;> omega)) (by first | omega | (split <;> omega)) dX2_settleLawsOf_22 (fun hc22 => ?_) (fun hc22 => by (first | (exfalso; omega) | cases hc22))
  refine PW.aload_n rfl rfl dX2_settleLawsOf_49 ?_
  refine PW.pgR hS (by decide) rfl fX2_59 dX2_settleLawsOf_50 ?_
  refine PW.iload_n rfl rfl dX2_settleLawsOf_53 ?_
  refine PW.iload_n rfl rfl dX2_settleLawsOf_54 ?_
  refine PW.puI hS (by decide) rfl (by exact rfl) ⟨by omega, by decide⟩ dX2_settleLawsOf_55 (fun hS hw55 => ?_)
  refine PW.iconst (v := nI 0) (by decide) dX2_settleLawsOf_56 ?_
  refine PW.istore (by decide) dX2_settleLawsOf_57 (?_ : PW _ _ _ _ [(0, _), (1, _), (2, _), (3, _), (4, _)] _ _ _)
  refine PW.iload rfl dX2_settleLawsOf_59 ?_
  refine PW.aload_n rfl rfl dX2_settleLawsOf_61 ?_
  refine PW.pgI hS (by decide) rfl (fi_wI.trans h0) fX2_62 dX2_settleLawsOf_62 ?_
  refine PW.icmp_geN 110 (by decide) (by first | omega | (split <;> omega)) (by first | omega | (split <;> omega)) dX2_settleLawsOf_65 (fun hc65 => ?_) (fun hc65 => by (first | (exfalso; omega) | cases hc65))
  refine PW.vret rfl (Nat.le_refl _) (Nat.le_refl _) dX2_settleLawsOf_110 ?_
  exact ⟨rfl, hS, Ag.wI (fun h => h rfl), hw55⟩
set_option maxHeartbeats 4000000 in
theorem p_settleLaws (hS : Sp mem) (h0 : fi mem 49 0 = nI 0) : Ret 2 0 0 mX2_settleLaws [.ref 49] mem (fun v m1 => v = none ∧ Sp m1 ∧ Ag (fun r => r ≠ 70 ∧ r ≠ 71) mem m1 ∧ XL m1 49 R0) := by
  refine Ret.of (by decide) (Nat.le_of_ble_eq_true rfl) fun l G => ?_
  show PW _ _ _ _ [(0, _)] _ _ _
  refine PW.aload_n rfl rfl dX2_settleLaws_0 ?_
  refine PW.pgR hS (by decide) rfl fX2_56 dX2_settleLaws_1 ?_
  refine PW.iconst (v := nI 0) (by decide) dX2_settleLaws_4 ?_
  refine PW.dS _ kX2_72 (p_fill hS (r := 70) (by decide) rfl (nI 0)) rfl rfl (Nat.le_of_ble_eq_true rfl) ⟨by decide, by decide⟩ ⟨Nat.zero_le _, Nat.zero_le _⟩ dX2_settleLaws_5 (fun v m1 q => ?_)
  obtain ⟨rfl, hS, hA1, hf1⟩ := q
  refine PW.iconst (v := nI 0) (by decide) dX2_settleLaws_8 ?_
  refine PW.istore_n rfl (by decide) dX2_settleLaws_9 (?_ : PW _ _ _ _ [(0, _), (1, _)] _ _ _)
  skip
  refine PW.loop (I := fun j m => Sp m ∧ Ag (fun r => r ≠ 70 ∧ r ≠ 71) mem m ∧ ∀ i, i < j → iv m 71 i = nI 1) (fun j _ => [(0, .ref 49), (1, .int (nI j))]) (fun _ m => m) 6 (fun j m hj hI ih => ?_) (fun m hI => ?_) _ ⟨hS, hA1.mono (fun r h => h.1), fun i hi => absurd hi (Nat.not_lt_zero _)⟩
  · obtain ⟨hS, hA, hv⟩ := hI
    refine PW.iload_n rfl rfl dX2_settleLaws_10 ?_
    refine PW.bipush (v := nI 6) (by decide) dX2_settleLaws_11 ?_
    refine PW.icmp_geN 27 (by decide) (by first | omega | (split <;> omega)) (by first | omega | (split <;> omega)) dX2_settleLaws_13 (fun hc13 => by exfalso; omega) (fun hc13 => ?_)
    refine PW.aload_n rfl rfl dX2_settleLaws_16 ?_
    refine PW.iload_n rfl rfl dX2_settleLaws_17 ?_
    refine PW.pdV (ci := 2) (j := 0) _ hS (by decide) rfl kX2_99 (p_settleLawsOf hS ((hA.fi (r := 49) (by decide) 0).trans h0) hj) rfl rfl (Nat.le_of_ble_eq_true rfl) rfl ⟨by decide, by decide⟩ ⟨Nat.zero_le _, Nat.zero_le _⟩ dX2_settleLaws_18 (fun v m1 q => ?_)
    obtain ⟨rfl, hS, hA2, hv2⟩ := q
    refine PW.iincN rfl (by decide) dX2_settleLaws_21 (?_ : PW _ _ _ _ [(0, _), (1, _)] _ _ _)
    refine PW.goto 10 (by decide) dX2_settleLaws_24 ?_
    refine ih _ ⟨hS, hA.tr (hA2.mono (fun r h => h.2)), fun i hi => ?_⟩
    rw [hv2]
    by_cases e : i = j
    · rw [if_pos e]
    · rw [if_neg e]; exact hv i (by omega)
  · obtain ⟨hS, hA, hv⟩ := hI
    refine PW.iload_n rfl rfl dX2_settleLaws_10 ?_
    refine PW.bipush (v := nI 6) (by decide) dX2_settleLaws_11 ?_
    refine PW.icmp_geN 27 (by decide) (by first | omega | (split <;> omega)) (by first | omega | (split <;> omega)) dX2_settleLaws_13 (fun hc13 => ?_) (fun hc13 => by exfalso; omega)
    refine PW.vret rfl (Nat.le_refl _) (Nat.le_refl _) dX2_settleLaws_27 ?_
    exact ⟨rfl, hS, hA, fun k hk => absurd hk (Nat.not_lt_zero _), fun i hi => hv i hi⟩
end XP
