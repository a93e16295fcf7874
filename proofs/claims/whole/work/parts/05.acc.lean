abbrev pw_K : Type := (Nat × Nat × Nat × List (Option Nat)) ⊕ (Nat × List Value)
def sv : Value → Value
  | .int _ => .int 0
  | .long _ => .long 0
  | v => v
def sk1 : pw_E → pw_K
  | .inl (t, n, .inl _) => .inl (0, t, n, [])
  | .inl (t, n, .inr (.inl _)) => .inl (1, t, n, [])
  | .inl (t, n, .inr (.inr f)) => .inl (2, t, n, (List.range n).map f)
  | .inr (c, vs) => .inr (c, if c = 5 then ((vs.map sv).set 9 .null).set 10 .null else vs.map sv)
def SK : List pw_K := [.inr (5, [.ref 10, .ref 13, .ref 15, .ref 37, .ref 42, .ref 43, .ref 46, .ref 47, .ref 48, .null, .null, .long 0]),
  .inr (4, [.ref 11, .ref 12, .int 0, .int 0, .int 0, .int 0, .int 0]),
  .inl (0, 0, 200, []),
  .inl (0, 0, 4, []),
  .inr (0, [.ref 14, .int 0, .int 0]),
  .inl (0, 0, 6, []),
  .inr (1, [.ref 16, .int 0, .int 0]),
  .inl (2, 3, 10, [some 17, some 19, some 21, some 23, some 25, some 27, some 29, some 31, some 33, some 35]),
  .inr (0, [.ref 18, .int 0, .int 0]),
  .inl (0, 0, 6, []),
  .inr (0, [.ref 20, .int 0, .int 0]),
  .inl (0, 0, 6, []),
  .inr (0, [.ref 22, .int 0, .int 0]),
  .inl (0, 0, 6, []),
  .inr (0, [.ref 24, .int 0, .int 0]),
  .inl (0, 0, 6, []),
  .inr (0, [.ref 26, .int 0, .int 0]),
  .inl (0, 0, 6, []),
  .inr (0, [.ref 28, .int 0, .int 0]),
  .inl (0, 0, 6, []),
  .inr (0, [.ref 30, .int 0, .int 0]),
  .inl (0, 0, 6, []),
  .inr (0, [.ref 32, .int 0, .int 0]),
  .inl (0, 0, 6, []),
  .inr (0, [.ref 34, .int 0, .int 0]),
  .inl (0, 0, 6, []),
  .inr (0, [.ref 36, .int 0, .int 0]),
  .inl (0, 0, 6, []),
  .inl (2, 3, 2, [some 38, some 40]),
  .inr (0, [.ref 39, .int 0, .int 0]),
  .inl (0, 0, 6, []),
  .inr (0, [.ref 41, .int 0, .int 0]),
  .inl (0, 0, 6, []),
  .inl (0, 1, 2, []),
  .inr (3, [.ref 44, .ref 45]),
  .inl (0, 0, 6, []),
  .inl (0, 0, 6, []),
  .inl (0, 0, 6, []),
  .inl (0, 0, 6, []),
  .inl (0, 0, 6, []),
  .inr (2, [.int 0, .int 0, .int 0, .ref 50, .ref 51, .ref 52, .ref 53, .ref 54, .ref 55, .ref 56, .ref 57, .ref 58, .ref 59, .ref 66, .ref 67, .ref 68, .ref 69, .ref 70, .ref 71]),
  .inl (0, 0, 6, []),
  .inl (0, 0, 6, []),
  .inl (0, 0, 6, []),
  .inl (0, 0, 6, []),
  .inl (0, 0, 6, []),
  .inl (0, 0, 6, []),
  .inl (0, 0, 6, []),
  .inl (0, 0, 6, []),
  .inl (0, 0, 6, []),
  .inl (2, 4, 6, [some 60, some 61, some 62, some 63, some 64, some 65]),
  .inl (0, 0, 6, []),
  .inl (0, 0, 6, []),
  .inl (0, 0, 6, []),
  .inl (0, 0, 6, []),
  .inl (0, 0, 6, []),
  .inl (0, 0, 6, []),
  .inl (0, 0, 6, []),
  .inl (0, 0, 6, []),
  .inl (0, 0, 6, []),
  .inl (0, 0, 6, []),
  .inl (0, 0, 6, []),
  .inl (0, 0, 6, []),
  .inr (2, [.int 0, .int 0, .int 0, .ref 73, .ref 74, .ref 75, .ref 76, .ref 77, .ref 78, .ref 79, .ref 80, .ref 81, .ref 82, .ref 89, .ref 90, .ref 91, .ref 92, .ref 93, .ref 94]),
  .inl (0, 0, 6, []),
  .inl (0, 0, 6, []),
  .inl (0, 0, 6, []),
  .inl (0, 0, 6, []),
  .inl (0, 0, 6, []),
  .inl (0, 0, 6, []),
  .inl (0, 0, 6, []),
  .inl (0, 0, 6, []),
  .inl (0, 0, 6, []),
  .inl (2, 4, 6, [some 83, some 84, some 85, some 86, some 87, some 88]),
  .inl (0, 0, 6, []),
  .inl (0, 0, 6, []),
  .inl (0, 0, 6, []),
  .inl (0, 0, 6, []),
  .inl (0, 0, 6, []),
  .inl (0, 0, 6, []),
  .inl (0, 0, 6, []),
  .inl (0, 0, 6, []),
  .inl (0, 0, 6, []),
  .inl (0, 0, 6, []),
  .inl (0, 0, 6, []),
  .inl (0, 0, 6, []),
  .inr (6, [.ref 96, .int 0, .ref 97, .int 0, .ref 98, .ref 99, .int 0, .ref 100, .ref 101, .ref 102, .int 0, .ref 103, .ref 104, .int 0, .long 0, .int 0, .int 0, .int 0, .int 0, .ref 105, .int 0, .ref 106, .ref 107, .int 0, .ref 108, .int 0, .ref 109, .int 0, .ref 110, .ref 111, .ref 112, .ref 113, .ref 114, .ref 115, .ref 116, .ref 117]),
  .inl (0, 0, 200, []),
  .inl (0, 0, 48, []),
  .inl (0, 1, 36, []),
  .inl (0, 0, 36, []),
  .inl (0, 0, 6, []),
  .inl (0, 0, 6, []),
  .inl (0, 0, 6, []),
  .inl (0, 0, 8, []),
  .inl (0, 0, 80, []),
  .inl (0, 0, 48, []),
  .inl (0, 1, 36, []),
  .inl (0, 0, 36, []),
  .inl (0, 0, 24, []),
  .inl (0, 0, 4, []),
  .inl (0, 0, 6, []),
  .inl (0, 0, 6, []),
  .inl (0, 0, 6, []),
  .inl (0, 0, 6, []),
  .inl (1, 2, 6, []),
  .inl (1, 2, 6, []),
  .inl (0, 1, 2, []),
  .inl (0, 0, 16, [])]
def Sh (mem : pw_M) : Prop := 9 ≤ mem.length ∧ (mem.drop 9).map sk1 = SK
def iv (mem : pw_M) (r j : Nat) : Int32 := match mem[r]? with
  | some (.inl (_, _, .inl f)) => f j
  | _ => 0
def jv (mem : pw_M) (r j : Nat) : Int64 := match mem[r]? with
  | some (.inl (_, _, .inr (.inl f))) => f j
  | _ => 0
def fv (mem : pw_M) (r j : Nat) : Value := match mem[r]? with
  | some (.inr (_, vs)) => vs.getD j .null
  | _ => .null
def fi (mem : pw_M) (r j : Nat) : Int32 := match fv mem r j with
  | .int x => x
  | _ => 0
def fl (mem : pw_M) (r j : Nat) : Int64 := match fv mem r j with
  | .long x => x
  | _ => 0
def wI (mem : pw_M) (r j : Nat) (x : Int32) : pw_M := match mem[r]? with
  | some (.inl (t, n, .inl f)) => mem.set r (.inl (t, n, .inl (upd f j x)))
  | _ => mem
def wJ (mem : pw_M) (r j : Nat) (x : Int64) : pw_M := match mem[r]? with
  | some (.inl (t, n, .inr (.inl f))) => mem.set r (.inl (t, n, .inr (.inl (vp_updL f j x))))
  | _ => mem
def wF (mem : pw_M) (r j : Nat) (v : Value) : pw_M := match mem[r]? with
  | some (.inr (c, vs)) => mem.set r (.inr (c, vs.set j v))
  | _ => mem
theorem Sh.at {mem : pw_M} (h : Sh mem) {r : Nat} (h9 : 9 ≤ r) {x : pw_K} (hx : SK[r - 9]? = some x) : ∃ e, mem[r]? = some e ∧ sk1 e = x := by
  rw [← h.2, List.getElem?_map, List.getElem?_drop, show 9 + (r - 9) = r by omega] at hx
  exact Option.map_eq_some_iff.mp hx
theorem Sh.arr {mem : pw_M} (h : Sh mem) {r t n : Nat} (h9 : 9 ≤ r) (hx : SK[r - 9]? = some (.inl (0, t, n, []))) : mem[r]? = some (.inl (t, n, .inl (iv mem r))) := by
  obtain ⟨e, h1, h2⟩ := h.at h9 hx
  rcases e with ⟨t', n', f | f | f⟩ | ⟨c, vs⟩
  · simp only [sk1, Sum.inl.injEq, Prod.mk.injEq] at h2
    obtain ⟨-, rfl, rfl, -⟩ := h2
    have e2 : iv mem r = f := by funext j; simp only [iv, h1]
    rw [e2, h1]
  · simp [sk1] at h2
  · simp [sk1] at h2
  · simp [sk1] at h2
theorem Sh.arrJ {mem : pw_M} (h : Sh mem) {r t n : Nat} (h9 : 9 ≤ r) (hx : SK[r - 9]? = some (.inl (1, t, n, []))) : mem[r]? = some (.inl (t, n, .inr (.inl (jv mem r)))) := by
  obtain ⟨e, h1, h2⟩ := h.at h9 hx
  rcases e with ⟨t', n', f | f | f⟩ | ⟨c, vs⟩
  · simp [sk1] at h2
  · simp only [sk1, Sum.inl.injEq, Prod.mk.injEq] at h2
    obtain ⟨-, rfl, rfl, -⟩ := h2
    have e2 : jv mem r = f := by funext j; simp only [jv, h1]
    rw [e2, h1]
  · simp [sk1] at h2
  · simp [sk1] at h2
theorem Sh.arrQ {mem : pw_M} (h : Sh mem) {r t n : Nat} {l : List (Option Nat)} (h9 : 9 ≤ r) (hx : SK[r - 9]? = some (.inl (2, t, n, l))) : ∃ f, mem[r]? = some (.inl (t, n, .inr (.inr f))) ∧ ∀ j, j < n → f j = l.getD j none := by
  obtain ⟨e, h1, h2⟩ := h.at h9 hx
  rcases e with ⟨t', n', f | f | f⟩ | ⟨c, vs⟩
  · simp [sk1] at h2
  · simp [sk1] at h2
  · simp only [sk1, Sum.inl.injEq, Prod.mk.injEq] at h2
    obtain ⟨-, rfl, rfl, rfl⟩ := h2
    exact ⟨f, h1, fun j hj => by simp [List.getD_eq_getElem?_getD, hj]⟩
  · simp [sk1] at h2
def skf (r ci j : Nat) : Option Value := match SK[r - 9]? with
  | some (.inr (c, vs)) => if c = ci then vs[j]? else none
  | _ => none
theorem Sh.obj {mem : pw_M} (h : Sh mem) {r ci j : Nat} {v : Value} (h9 : 9 ≤ r) (hx : skf r ci j = some v) : ∃ vs, mem[r]? = some (.inr (ci, vs)) ∧ (if ci = 5 then ((vs.map sv).set 9 .null).set 10 .null else vs.map sv)[j]? = some v := by
  unfold skf at hx
  cases hs : SK[r - 9]? with
  | none => rw [hs] at hx; cases hx
  | some x =>
    rw [hs] at hx
    rcases x with x | ⟨c, vs0⟩
    · cases hx
    · obtain ⟨e, h1, h2⟩ := h.at h9 hs
      by_cases hc : c = ci
      · subst hc
        simp only [if_pos] at hx
        rcases e with ⟨t', n', f | f | f⟩ | ⟨c', vs⟩
        · simp [sk1] at h2
        · simp [sk1] at h2
        · simp [sk1] at h2
        · simp only [sk1, Sum.inr.injEq, Prod.mk.injEq] at h2
          obtain ⟨rfl, rfl⟩ := h2
          exact ⟨vs, h1, hx⟩
      · simp only [if_neg hc] at hx
        cases hx
theorem skf_get {ci j : Nat} {vs : List Value} {v : Value} (hx : (if ci = 5 then ((vs.map sv).set 9 .null).set 10 .null else vs.map sv)[j]? = some v) (hv : v ≠ .null) : ∃ u, vs[j]? = some u ∧ sv u = v := by
  by_cases h5 : ci = 5
  · rw [if_pos h5, List.getElem?_set, List.getElem?_set] at hx
    by_cases h1 : 10 = j
    · rw [if_pos h1] at hx
      split at hx
      · cases hx; exact absurd rfl hv
      · cases hx
    · rw [if_neg h1] at hx
      by_cases h2 : 9 = j
      · rw [if_pos h2] at hx
        split at hx
        · cases hx; exact absurd rfl hv
        · cases hx
      · rw [if_neg h2, List.getElem?_map] at hx
        exact Option.map_eq_some_iff.mp hx
  · rw [if_neg h5, List.getElem?_map] at hx
    exact Option.map_eq_some_iff.mp hx
theorem Sh.int {mem : pw_M} (h : Sh mem) {r ci j : Nat} (h9 : 9 ≤ r) (hx : skf r ci j = some (.int 0)) : ∃ vs, mem[r]? = some (.inr (ci, vs)) ∧ vs[j]? = some (.int (fi mem r j)) := by
  obtain ⟨vs, h1, h2⟩ := h.obj h9 hx
  obtain ⟨u, h3, h4⟩ := skf_get h2 (fun e => by cases e)
  refine ⟨vs, h1, ?_⟩
  have e : fv mem r j = u := by simp only [fv, h1, List.getD_eq_getElem?_getD, h3]; rfl
  cases u <;> simp [sv] at h4
  simp only [fi, e, h3]
theorem Sh.long {mem : pw_M} (h : Sh mem) {r ci j : Nat} (h9 : 9 ≤ r) (hx : skf r ci j = some (.long 0)) : ∃ vs, mem[r]? = some (.inr (ci, vs)) ∧ vs[j]? = some (.long (fl mem r j)) := by
  obtain ⟨vs, h1, h2⟩ := h.obj h9 hx
  obtain ⟨u, h3, h4⟩ := skf_get h2 (fun e => by cases e)
  refine ⟨vs, h1, ?_⟩
  have e : fv mem r j = u := by simp only [fv, h1, List.getD_eq_getElem?_getD, h3]; rfl
  cases u <;> simp [sv] at h4
  simp only [fl, e, h3]
theorem Sh.ref {mem : pw_M} (h : Sh mem) {r ci j q : Nat} (h9 : 9 ≤ r) (hx : skf r ci j = some (.ref q)) : ∃ vs, mem[r]? = some (.inr (ci, vs)) ∧ vs[j]? = some (.ref q) := by
  obtain ⟨vs, h1, h2⟩ := h.obj h9 hx
  obtain ⟨u, h3, h4⟩ := skf_get h2 (fun e => by cases e)
  refine ⟨vs, h1, ?_⟩
  cases u <;> simp [sv] at h4
  rw [h3, h4]
/-- the object's cell, and a field that is no constant -/
theorem Sh.var {mem : pw_M} (h : Sh mem) {r ci j q : Nat} {v : Value} (h9 : 9 ≤ r) (hx : skf r ci j = some v) (hq : fv mem r j = .ref q) : ∃ vs, mem[r]? = some (.inr (ci, vs)) ∧ vs[j]? = some (.ref q) := by
  obtain ⟨vs, h1, h2⟩ := h.obj h9 hx
  refine ⟨vs, h1, ?_⟩
  have e : fv mem r j = vs.getD j .null := by simp only [fv, h1]
  rw [hq, List.getD_eq_getElem?_getD] at e
  cases hj : vs[j]? with
  | none => rw [hj] at e; cases e
  | some u => rw [hj] at e; exact congrArg some e.symm
theorem sk1_len {mem : pw_M} {r : Nat} {x : pw_E} : (mem.set r x).length = mem.length := List.length_set
theorem Sh.set {mem : pw_M} (h : Sh mem) {r : Nat} {x y : pw_E} (hr : mem[r]? = some x) (hxy : sk1 y = sk1 x) : Sh (mem.set r y) := by
  refine ⟨by rw [List.length_set]; exact h.1, ?_⟩
  rw [← h.2]
  apply List.ext_getElem?
  intro k
  rw [List.getElem?_map, List.getElem?_map, List.getElem?_drop, List.getElem?_drop, List.getElem?_set]
  by_cases e : r = 9 + k
  · subst e
    have hlt := (List.getElem?_eq_some_iff.mp hr).1
    rw [if_pos rfl, if_pos hlt, hr]
    simp only [Option.map_some, hxy]
  · rw [if_neg e]
theorem Sh.shI {mem : pw_M} (h : Sh mem) (r j : Nat) (x : Int32) : Sh (wI mem r j x) := by
  unfold wI
  split
  · rename_i t n f hr
    exact h.set hr rfl
  · exact h
theorem Sh.shJ {mem : pw_M} (h : Sh mem) (r j : Nat) (x : Int64) : Sh (wJ mem r j x) := by
  unfold wJ
  split
  · rename_i t n f hr
    exact h.set hr rfl
  · exact h
theorem set_sv {vs : List Value} {j : Nat} {u v : Value} (hj : vs[j]? = some u) (h : sv v = sv u) : (vs.set j v).map sv = vs.map sv := by
  apply List.ext_getElem?
  intro k
  rw [List.getElem?_map, List.getElem?_map, List.getElem?_set]
  by_cases e : j = k
  · subst e
    rw [if_pos rfl, if_pos (List.getElem?_eq_some_iff.mp hj).1, hj]
    simp only [Option.map_some, h]
  · rw [if_neg e]
theorem Sh.shFI {mem : pw_M} (h : Sh mem) {r ci j : Nat} (h9 : 9 ≤ r) (hx : skf r ci j = some (.int 0)) (x : Int32) : Sh (wF mem r j (.int x)) := by
  obtain ⟨vs, h1, h2⟩ := h.int h9 hx
  have e : wF mem r j (.int x) = mem.set r (.inr (ci, vs.set j (.int x))) := by simp only [wF, h1]
  rw [e]
  refine h.set h1 ?_
  simp only [sk1]
  rw [set_sv (v := .int x) h2 rfl]
theorem Sh.shFL {mem : pw_M} (h : Sh mem) {r ci j : Nat} (h9 : 9 ≤ r) (hx : skf r ci j = some (.long 0)) (x : Int64) : Sh (wF mem r j (.long x)) := by
  obtain ⟨vs, h1, h2⟩ := h.long h9 hx
  have e : wF mem r j (.long x) = mem.set r (.inr (ci, vs.set j (.long x))) := by simp only [wF, h1]
  rw [e]
  refine h.set h1 ?_
  simp only [sk1]
  rw [set_sv (v := .long x) h2 rfl]
theorem Sh.shFR {mem : pw_M} (h : Sh mem) {j : Nat} (hj : j = 9 ∨ j = 10) (v : Value) : Sh (wF mem 9 j v) := by
  obtain ⟨vs, h1, h2⟩ := h.obj (r := 9) (ci := 5) (j := 9) (by omega) rfl
  have e : wF mem 9 j v = mem.set 9 (.inr (5, vs.set j v)) := by simp only [wF, h1]
  rw [e]
  refine h.set h1 ?_
  simp only [sk1, if_pos]
  congr 2
  apply List.ext_getElem?
  intro k
  simp only [List.getElem?_set, List.getElem?_map, List.length_set, List.length_map]
  rcases hj with rfl | rfl <;> by_cases e1 : 9 = k <;> by_cases e2 : 10 = k <;> simp [e1, e2] <;> omega
theorem get_set_ne {mem : pw_M} {r r' : Nat} {x : pw_E} (h : r' ≠ r) : (mem.set r x)[r']? = mem[r']? := by rw [List.getElem?_set, if_neg (fun e => h e.symm)]
theorem get_set_eq {mem : pw_M} {r : Nat} {x y : pw_E} (h : mem[r]? = some y) : (mem.set r x)[r]? = some x := by rw [List.getElem?_set, if_pos rfl, if_pos (List.getElem?_eq_some_iff.mp h).1]
theorem iv_wI_ne {mem : pw_M} {r r' j j' : Nat} {x : Int32} (h : r' ≠ r) : iv (wI mem r j x) r' j' = iv mem r' j' := by
  unfold wI
  split
  · simp only [iv, get_set_ne h]
  · rfl
theorem iv_wJ {mem : pw_M} {r r' j j' : Nat} {x : Int64} : iv (wJ mem r j x) r' j' = iv mem r' j' := by
  unfold wJ
  split
  · rename_i t n f hr
    by_cases e : r' = r
    · subst e
      simp only [iv, get_set_eq hr, hr]
    · simp only [iv, get_set_ne e]
  · rfl
theorem iv_wF {mem : pw_M} {r r' j j' : Nat} {v : Value} : iv (wF mem r j v) r' j' = iv mem r' j' := by
  unfold wF
  split
  · rename_i c vs hr
    by_cases e : r' = r
    · subst e
      simp only [iv, get_set_eq hr, hr]
    · simp only [iv, get_set_ne e]
  · rfl
theorem jv_wI {mem : pw_M} {r r' j j' : Nat} {x : Int32} : jv (wI mem r j x) r' j' = jv mem r' j' := by
  unfold wI
  split
  · rename_i t n f hr
    by_cases e : r' = r
    · subst e
      simp only [jv, get_set_eq hr, hr]
    · simp only [jv, get_set_ne e]
  · rfl
theorem jv_wJ_ne {mem : pw_M} {r r' j j' : Nat} {x : Int64} (h : r' ≠ r) : jv (wJ mem r j x) r' j' = jv mem r' j' := by
  unfold wJ
  split
  · simp only [jv, get_set_ne h]
  · rfl
theorem jv_wF {mem : pw_M} {r r' j j' : Nat} {v : Value} : jv (wF mem r j v) r' j' = jv mem r' j' := by
  unfold wF
  split
  · rename_i c vs hr
    by_cases e : r' = r
    · subst e
      simp only [jv, get_set_eq hr, hr]
    · simp only [jv, get_set_ne e]
  · rfl
theorem fv_wI {mem : pw_M} {r r' j j' : Nat} {x : Int32} : fv (wI mem r j x) r' j' = fv mem r' j' := by
  unfold wI
  split
  · rename_i t n f hr
    by_cases e : r' = r
    · subst e
      simp only [fv, get_set_eq hr, hr]
    · simp only [fv, get_set_ne e]
  · rfl
theorem fv_wJ {mem : pw_M} {r r' j j' : Nat} {x : Int64} : fv (wJ mem r j x) r' j' = fv mem r' j' := by
  unfold wJ
  split
  · rename_i t n f hr
    by_cases e : r' = r
    · subst e
      simp only [fv, get_set_eq hr, hr]
    · simp only [fv, get_set_ne e]
  · rfl
theorem fv_wF_ne {mem : pw_M} {r r' j j' : Nat} {v : Value} (h : r' ≠ r ∨ j' ≠ j) : fv (wF mem r j v) r' j' = fv mem r' j' := by
  unfold wF
  split
  · rename_i c vs hr
    by_cases e : r' = r
    · subst e
      have hj : j' ≠ j := h.resolve_left (fun q => q rfl)
      simp only [fv, get_set_eq hr, hr, List.getD_eq_getElem?_getD, List.getElem?_set, if_neg (fun q : j = j' => hj q.symm)]
    · simp only [fv, get_set_ne e]
  · rfl
theorem fi_wI {mem : pw_M} {r r' j j' : Nat} {x : Int32} : fi (wI mem r j x) r' j' = fi mem r' j' := by simp only [fi, fv_wI]
theorem fi_wJ {mem : pw_M} {r r' j j' : Nat} {x : Int64} : fi (wJ mem r j x) r' j' = fi mem r' j' := by simp only [fi, fv_wJ]
theorem fl_wI {mem : pw_M} {r r' j j' : Nat} {x : Int32} : fl (wI mem r j x) r' j' = fl mem r' j' := by simp only [fl, fv_wI]
theorem fl_wJ {mem : pw_M} {r r' j j' : Nat} {x : Int64} : fl (wJ mem r j x) r' j' = fl mem r' j' := by simp only [fl, fv_wJ]
theorem fi_wF_ne {mem : pw_M} {r r' j j' : Nat} {v : Value} (h : r' ≠ r ∨ j' ≠ j) : fi (wF mem r j v) r' j' = fi mem r' j' := by simp only [fi, fv_wF_ne h]
theorem fl_wF_ne {mem : pw_M} {r r' j j' : Nat} {v : Value} (h : r' ≠ r ∨ j' ≠ j) : fl (wF mem r j v) r' j' = fl mem r' j' := by simp only [fl, fv_wF_ne h]
theorem Sh.iv_wI {mem : pw_M} (h : Sh mem) {r t n j j' : Nat} {x : Int32} (h9 : 9 ≤ r) (hx : SK[r - 9]? = some (.inl (0, t, n, []))) : iv (wI mem r j x) r j' = if j' = j then x else iv mem r j' := by
  have hr := h.arr h9 hx
  have e : wI mem r j x = mem.set r (.inl (t, n, .inl (upd (iv mem r) j x))) := by simp only [wI, hr]
  rw [e]
  simp only [iv, get_set_eq hr, upd]
theorem Sh.jv_wJ {mem : pw_M} (h : Sh mem) {r t n j j' : Nat} {x : Int64} (h9 : 9 ≤ r) (hx : SK[r - 9]? = some (.inl (1, t, n, []))) : jv (wJ mem r j x) r j' = if j' = j then x else jv mem r j' := by
  have hr := h.arrJ h9 hx
  have e : wJ mem r j x = mem.set r (.inl (t, n, .inr (.inl (vp_updL (jv mem r) j x)))) := by simp only [wJ, hr]
  rw [e]
  simp only [jv, get_set_eq hr, vp_updL]
theorem Sh.fv_wF {mem : pw_M} (h : Sh mem) {r ci j : Nat} {u v : Value} (h9 : 9 ≤ r) (hx : skf r ci j = some u) : fv (wF mem r j v) r j = v := by
  obtain ⟨vs, h1, h2⟩ := h.obj h9 hx
  have e : wF mem r j v = mem.set r (.inr (ci, vs.set j v)) := by simp only [wF, h1]
  have hl : j < vs.length := by
    have := (List.getElem?_eq_some_iff.mp h2).1
    by_cases h5 : ci = 5
    · rw [if_pos h5] at this; simpa using this
    · rw [if_neg h5] at this; simpa using this
  rw [e]
  simp only [fv, get_set_eq h1, List.getD_eq_getElem?_getD, List.getElem?_set, if_pos rfl, if_pos hl]
  rfl
theorem Sh.fi_wF {mem : pw_M} (h : Sh mem) {r ci j : Nat} {u : Value} {x : Int32} (h9 : 9 ≤ r) (hx : skf r ci j = some u) : fi (wF mem r j (.int x)) r j = x := by simp only [fi, h.fv_wF h9 hx]
theorem Sh.fl_wF {mem : pw_M} (h : Sh mem) {r ci j : Nat} {u : Value} {x : Int64} (h9 : 9 ≤ r) (hx : skf r ci j = some u) : fl (wF mem r j (.long x)) r j = x := by simp only [fl, h.fv_wF h9 hx]
section PWA
variable {l : Launch} {G : pw_G} {Y : pw_Y} {R : Room} {mc ms k n pc : Nat} {ls : List (Nat × Value)} {st : List Value} {mem : pw_M} {Q : Option Value → pw_M → Prop}
theorem PW.gI {idx ci j r : Nat} {x : Int32} (hS : Sh mem) (h9 : 9 ≤ r) (hr : skf r ci j = some (.int 0)) (hv : fi mem r j = x) (hs : pw_F Y.1.cls idx ci j) (d : decode Y.2.1 pc = .ok (.getfield idx, 3)) (kk : PW (l, G, Y, R, mc, ms) k n (pc + 3) ls (.int x :: st) mem Q) : PW (l, G, Y, R, mc, ms) k n pc ls (.ref r :: st) mem Q := by
  obtain ⟨vs, h1, h2⟩ := hS.int h9 hr
  exact PW.get hs h9 h1 h2 d (by rw [hv]; exact kk)
theorem PW.gL {idx ci j r : Nat} {x : Int64} (hS : Sh mem) (h9 : 9 ≤ r) (hr : skf r ci j = some (.long 0)) (hv : fl mem r j = x) (hs : pw_F Y.1.cls idx ci j) (d : decode Y.2.1 pc = .ok (.getfield idx, 3)) (kk : PW (l, G, Y, R, mc, ms) k n (pc + 3) ls (.long x :: st) mem Q) : PW (l, G, Y, R, mc, ms) k n pc ls (.ref r :: st) mem Q := by
  obtain ⟨vs, h1, h2⟩ := hS.long h9 hr
  exact PW.get hs h9 h1 h2 d (by rw [hv]; exact kk)
theorem PW.gR {idx ci j r q : Nat} (hS : Sh mem) (h9 : 9 ≤ r) (hr : skf r ci j = some (.ref q)) (hs : pw_F Y.1.cls idx ci j) (d : decode Y.2.1 pc = .ok (.getfield idx, 3)) (kk : PW (l, G, Y, R, mc, ms) k n (pc + 3) ls (.ref q :: st) mem Q) : PW (l, G, Y, R, mc, ms) k n pc ls (.ref r :: st) mem Q := by
  obtain ⟨vs, h1, h2⟩ := hS.ref h9 hr
  exact PW.get hs h9 h1 h2 d kk
theorem PW.gV {idx ci j r q : Nat} {v : Value} (hS : Sh mem) (h9 : 9 ≤ r) (hr : skf r ci j = some v) (hq : fv mem r j = .ref q) (hs : pw_F Y.1.cls idx ci j) (d : decode Y.2.1 pc = .ok (.getfield idx, 3)) (kk : PW (l, G, Y, R, mc, ms) k n (pc + 3) ls (.ref q :: st) mem Q) : PW (l, G, Y, R, mc, ms) k n pc ls (.ref r :: st) mem Q := by
  obtain ⟨vs, h1, h2⟩ := hS.var h9 hr hq
  exact PW.get hs h9 h1 h2 d kk
theorem PW.pI {idx ci j r : Nat} {x : Int32} (hS : Sh mem) (h9 : 9 ≤ r) (hr : skf r ci j = some (.int 0)) (hs : pw_FP Y.1.cls idx ci j .int false) (d : decode Y.2.1 pc = .ok (.putfield idx, 3)) (kk : PW (l, G, Y, R, mc, ms) k n (pc + 3) ls st (wF mem r j (.int x)) Q) : PW (l, G, Y, R, mc, ms) k n pc ls (.int x :: .ref r :: st) mem Q := by
  obtain ⟨vs, h1, h2⟩ := hS.int h9 hr
  have e : wF mem r j (.int x) = mem.set r (.inr (ci, vs.set j (.int x))) := by simp only [wF, h1]
  rw [e] at kk
  exact PW.put hs (fun G => ⟨rfl, rfl⟩) h9 h1 (List.getElem?_eq_some_iff.mp h2).1 d kk
theorem PW.pL {idx ci j r : Nat} {x : Int64} (hS : Sh mem) (h9 : 9 ≤ r) (hr : skf r ci j = some (.long 0)) (hs : pw_FP Y.1.cls idx ci j .long false) (d : decode Y.2.1 pc = .ok (.putfield idx, 3)) (kk : PW (l, G, Y, R, mc, ms) k n (pc + 3) ls st (wF mem r j (.long x)) Q) : PW (l, G, Y, R, mc, ms) k n pc ls (.long x :: .ref r :: st) mem Q := by
  obtain ⟨vs, h1, h2⟩ := hS.long h9 hr
  have e : wF mem r j (.long x) = mem.set r (.inr (ci, vs.set j (.long x))) := by simp only [wF, h1]
  rw [e] at kk
  exact PW.put hs (fun G => ⟨rfl, rfl⟩) h9 h1 (List.getElem?_eq_some_iff.mp h2).1 d kk
theorem PW.aI {r N j : Nat} {i x : Int32} (hS : Sh mem) (h9 : 9 ≤ r) (hr : SK[r - 9]? = some (.inl (0, 0, N, []))) (hi : i = nI j) (hj : j < N ∧ N < 1000) (hv : iv mem r j = x) (d : decode Y.2.1 pc = .ok (.iaload, 1)) (kk : PW (l, G, Y, R, mc, ms) k n (pc + 1) ls (.int x :: st) mem Q) : PW (l, G, Y, R, mc, ms) k n pc ls (.int i :: .ref r :: st) mem Q := by
  subst hi
  have hc : (nI j).toNatClampNeg = j := nI_clamp (by omega)
  refine PW.iald (hS.arr h9 hr) (vp_in_nI hj.1 (by omega)) d ?_
  rw [hc, hv]
  exact kk
theorem PW.aZ {r N j : Nat} {i x : Int32} (hS : Sh mem) (h9 : 9 ≤ r) (hr : SK[r - 9]? = some (.inl (0, 1, N, []))) (hi : i = nI j) (hj : j < N ∧ N < 1000) (hv : iv mem r j = x) (d : decode Y.2.1 pc = .ok (.baload, 1)) (kk : PW (l, G, Y, R, mc, ms) k n (pc + 1) ls (.int x :: st) mem Q) : PW (l, G, Y, R, mc, ms) k n pc ls (.int i :: .ref r :: st) mem Q := by
  subst hi
  have hc : (nI j).toNatClampNeg = j := nI_clamp (by omega)
  refine PW.zald h9 (hS.arr h9 hr) (vp_in_nI hj.1 (by omega)) d ?_
  rw [hc, hv]
  exact kk
theorem PW.aL {r N j : Nat} {i : Int32} {x : Int64} (hS : Sh mem) (h9 : 9 ≤ r) (hr : SK[r - 9]? = some (.inl (1, 2, N, []))) (hi : i = nI j) (hj : j < N ∧ N < 1000) (hv : jv mem r j = x) (d : decode Y.2.1 pc = .ok (.laload, 1)) (kk : PW (l, G, Y, R, mc, ms) k n (pc + 1) ls (.long x :: st) mem Q) : PW (l, G, Y, R, mc, ms) k n pc ls (.int i :: .ref r :: st) mem Q := by
  subst hi
  have hc : (nI j).toNatClampNeg = j := nI_clamp (by omega)
  refine PW.lald h9 (hS.arrJ h9 hr) (vp_in_nI hj.1 (by omega)) d ?_
  rw [hc, hv]
  exact kk
theorem PW.aQ {r N j q : Nat} {i : Int32} {t0 : Nat} {ty : FieldType} {ql : List (Option Nat)} (hS : Sh mem) (h9 : 9 ≤ r) (hr : SK[r - 9]? = some (.inl (2, t0, N, ql))) (ht : ∀ G : pw_G, (pw_tys G)[t0]? = some (G.2.1 t0, ty)) (hty : ty.isReference = true) (hi : i = nI j) (hj : j < N ∧ N < 1000) (hq : ql.getD j none = some q) (d : decode Y.2.1 pc = .ok (.aaload, 1)) (kk : PW (l, G, Y, R, mc, ms) k n (pc + 1) ls (.ref q :: st) mem Q) : PW (l, G, Y, R, mc, ms) k n pc ls (.int i :: .ref r :: st) mem Q := by
  subst hi
  have hc : (nI j).toNatClampNeg = j := nI_clamp (by omega)
  obtain ⟨f, h1, h2⟩ := hS.arrQ h9 hr
  exact PW.aald h9 h1 ht hty (vp_in_nI hj.1 (by omega)) (by rw [hc, h2 j hj.1]; exact hq) d kk
theorem PW.sI {r N j : Nat} {i x : Int32} (hS : Sh mem) (h9 : 9 ≤ r) (hr : SK[r - 9]? = some (.inl (0, 0, N, []))) (hi : i = nI j) (hj : j < N ∧ N < 1000) (d : decode Y.2.1 pc = .ok (.iastore, 1)) (kk : PW (l, G, Y, R, mc, ms) k n (pc + 1) ls st (wI mem r j x) Q) : PW (l, G, Y, R, mc, ms) k n pc ls (.int x :: .int i :: .ref r :: st) mem Q := by
  subst hi
  have hc : (nI j).toNatClampNeg = j := nI_clamp (by omega)
  have h1 := hS.arr h9 hr
  have e : wI mem r j x = mem.set r (.inl (0, N, .inl (upd (iv mem r) j x))) := by simp only [wI, h1]
  rw [e] at kk
  exact PW.iast h9 h1 (vp_in_nI hj.1 (by omega)) d (by rw [hc]; exact kk)
theorem PW.sZ {r N j : Nat} {i x : Int32} (hS : Sh mem) (h9 : 9 ≤ r) (hr : SK[r - 9]? = some (.inl (0, 1, N, []))) (hi : i = nI j) (hj : j < N ∧ N < 1000) (hx : vp_nar .boolean x = x) (d : decode Y.2.1 pc = .ok (.bastore, 1)) (kk : PW (l, G, Y, R, mc, ms) k n (pc + 1) ls st (wI mem r j x) Q) : PW (l, G, Y, R, mc, ms) k n pc ls (.int x :: .int i :: .ref r :: st) mem Q := by
  subst hi
  have hc : (nI j).toNatClampNeg = j := nI_clamp (by omega)
  have h1 := hS.arr h9 hr
  have e : wI mem r j x = mem.set r (.inl (1, N, .inl (upd (iv mem r) j x))) := by simp only [wI, h1]
  rw [e] at kk
  exact PW.zast h9 h1 (vp_in_nI hj.1 (by omega)) d (by rw [hc, hx]; exact kk)
theorem PW.sL {r N j : Nat} {i : Int32} {x : Int64} (hS : Sh mem) (h9 : 9 ≤ r) (hr : SK[r - 9]? = some (.inl (1, 2, N, []))) (hi : i = nI j) (hj : j < N ∧ N < 1000) (d : decode Y.2.1 pc = .ok (.lastore, 1)) (kk : PW (l, G, Y, R, mc, ms) k n (pc + 1) ls st (wJ mem r j x) Q) : PW (l, G, Y, R, mc, ms) k n pc ls (.long x :: .int i :: .ref r :: st) mem Q := by
  subst hi
  have hc : (nI j).toNatClampNeg = j := nI_clamp (by omega)
  have h1 := hS.arrJ h9 hr
  have e : wJ mem r j x = mem.set r (.inl (2, N, .inr (.inl (vp_updL (jv mem r) j x)))) := by simp only [wJ, h1]
  rw [e] at kk
  exact PW.last h9 h1 (vp_in_nI hj.1 (by omega)) d (by rw [hc]; exact kk)
theorem PW.cV {Y' : pw_Y} {h' idx nA b : Nat} {ci j : Nat} {st0 : List Value} {r : Option Value} {mem1 : pw_M} {u : Value} (av : List Value) (hS : Sh mem) (h9 : 9 ≤ b) (hb : skf b ci j = some u) (hs : pw_CV Y.1.cls idx Y' nA) (hM : Rf h' Y' (.ref b :: av) mem r mem1) (hst : st0 = av.reverse ++ .ref b :: st) (hn : av.length = nA) (hr : (st.map fun v => v.category).sum ≤ 8) (hC : vwCl[ci]?.map (fun q => q.1) = some Y'.1.cls)
    (hh : h' + 1 ≤ R.frames ∧ 100 * h' + 100 ≤ R.locals) (hc : k ≤ R.cells ∧ n ≤ R.slots) (d : decode Y.2.1 pc = .ok (.invokevirtual idx, 3)) (kk : PW (l, G, Y, R, mc, ms) k n (pc + 3) ls (r.toList ++ st) mem1 Q) : PW (l, G, Y, R, mc, ms) k n pc ls st0 mem Q := by
  obtain ⟨vs, h1, h2⟩ := hS.obj h9 hb
  exact PW.callV av hs hM hst hn hr h9 h1 hC hh hc d (fun v m1 q => by obtain ⟨rfl, rfl⟩ := q; exact kk)
theorem PW.cS {Y' : pw_Y} {h' idx nA : Nat} {st0 : List Value} {r : Option Value} {mem1 : pw_M} (av : List Value) (hs : pw_CS Y.1.cls idx Y' nA) (hM : Rf h' Y' av mem r mem1) (hst : st0 = av.reverse ++ st) (hn : av.length = nA) (hr : (st.map fun v => v.category).sum ≤ 8)
    (hh : h' + 1 ≤ R.frames ∧ 100 * h' + 100 ≤ R.locals) (hc : k ≤ R.cells ∧ n ≤ R.slots) (d : decode Y.2.1 pc = .ok (.invokestatic idx, 3)) (kk : PW (l, G, Y, R, mc, ms) k n (pc + 3) ls (r.toList ++ st) mem1 Q) : PW (l, G, Y, R, mc, ms) k n pc ls st0 mem Q :=
  PW.callS av hs hM hst hn hr hh hc d (fun v m1 q => by obtain ⟨rfl, rfl⟩ := q; exact kk)
theorem PW.cSN {Y' : pw_Y} {h' idx nA : Nat} {host : String} {st0 : List Value} {r : Option Value} {mem1 : pw_M} (av : List Value) (hs : pw_CSN Y.1.cls idx Y' nA host) (hM : Rf h' Y' av mem r mem1) (hst : st0 = av.reverse ++ st) (hn : av.length = nA) (hr : (st.map fun v => v.category).sum ≤ 8)
    (hh : h' + 1 ≤ R.frames ∧ 100 * h' + 100 ≤ R.locals) (hc : k ≤ R.cells ∧ n ≤ R.slots) (d : decode Y.2.1 pc = .ok (.invokestatic idx, 3)) (kk : PW (l, G, Y, R, mc, ms) k n (pc + 3) ls (r.toList ++ st) mem1 Q) : PW (l, G, Y, R, mc, ms) k n pc ls st0 mem Q :=
  PW.callSN av hs hM hst hn hr hh hc d (fun v m1 q => by obtain ⟨rfl, rfl⟩ := q; exact kk)
/-- a loop that counts up: P j is the state at its head -/
theorem PW.up {X : pw_X} {k n pc : Nat} {Q : Option Value → pw_M → Prop} (P : Nat → List (Nat × Value)) (M : Nat → pw_M) (N : Nat) (hs : ∀ j, j < N → PW X k n pc (P (j + 1)) [] (M (j + 1)) Q → PW X k n pc (P j) [] (M j) Q) (hx : PW X k n pc (P N) [] (M N) Q) : PW X k n pc (P 0) [] (M 0) Q := by
  have key : ∀ i, i ≤ N → PW X k n pc (P (N - i)) [] (M (N - i)) Q := by
    intro i
    induction i with
    | zero => intro _; exact hx
    | succ i ih =>
      intro hi
      have h1 := ih (by omega)
      have e : N - i = (N - (i + 1)) + 1 := by omega
      rw [e] at h1
      exact hs (N - (i + 1)) (by omega) h1
  have h0 := key N (Nat.le_refl N)
  rw [Nat.sub_self] at h0
  exact h0
end PWA
