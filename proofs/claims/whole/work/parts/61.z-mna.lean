/-! ===== the making of six rows of six (a field of fields), from the machine's own words: the outer cell, then row by row a cell and a store ===== -/
section MM
variable {E : CtlPost} {e : Env} {d : Bool} {acts : List Action} {s : State}
/-- a new row: its class is there, there is room for it -/
theorem mm_row {c comp : ClassId} {k : Class} {ty : FieldType} {v : Value} {N : Nat} {Q : Addr → Pre} (hk : s.vm.classes[c]? = some k) (hkd : k.kind = .array comp ty) (hv : fits ty v = true) (hdv : v.isDefault = true) (h1 : ¬ N > e.platform.arrayLengthLimit) (h2 : ¬ N * componentBytes ty > e.platform.maxHeapBytes) (hc : s.heap.size < e.platform.maxCells) (hu : s.slotsUsed + N ≤ e.platform.maxSlots) (hq : Q s.heap.size d acts (s.pushCell { cls := c, slots := Array.replicate N v, vm := .none })) : wp (Jvm.newArray c N v) Q E e d acts s := by
  have h3 : ¬ N > e.platform.maxSlots := by omega
  have hfit : ∀ (i : Nat) (w : Value), (Array.replicate N v)[i]? = some w → s.fitsSlot c .none i w = true := by
    intro i w hw
    simp only [Array.getElem?_replicate] at hw
    split at hw
    · cases hw
      simp [State.fitsSlot, State.slotType?, hk, hkd, hv]
    · cases hw
  have hdef : allocActs (Array.replicate N v) s.heap.size acts = acts := by
    have hall : ((Array.replicate N v).all (·.isDefault)) = true := by
      rw [Array.all_replicate]
      split <;> simp [hdv]
    unfold allocActs
    rw [if_pos hall]
  simp only [Jvm.newArray, Jvm.arrayFits, wp_bind', Jvm.W.ask, Jvm.W.ite, h1, if_false, Jvm.W.theClass, hk, Option.some.injEq, exists_eq_left', hkd, h2, h3, wp_pure', Jvm.W.alloc, Array.size_replicate, hdef]
  exact ⟨hc, hu, hfit, hq⟩
/-- the outer cell when i of its rows are made -/
def mm_C (cA : ClassId) (q i : Nat) : Cell := arrV cA 6 (fun j => va_rf (if j < i then some (q + 1 + j) else none))
theorem mm_C0 (cA : ClassId) (q : Nat) : ({ cls := cA, slots := Array.replicate 6 .null, vm := .none } : Cell) = mm_C cA q 0 := by
  rw [arrV_new]
  unfold mm_C
  congr 1
theorem mm_Cs (cA : ClassId) (q i : Nat) : (mm_C cA q i).setSlot i (.ref (q + 1 + i)) = mm_C cA q (i + 1) := by
  unfold mm_C
  rw [arrV_store]
  congr 1
  funext j
  unfold updV
  rcases Nat.lt_trichotomy j i with h | h | h
  · rw [if_neg (Nat.ne_of_lt h), if_pos (Nat.lt_succ_of_lt h)]
    exact congrArg va_rf (if_pos h)
  · rw [h, if_pos rfl, if_pos (Nat.lt_succ_self i)]
    rfl
  · rw [if_neg (Nat.ne_of_gt h), if_neg (show ¬ j < i + 1 by omega)]
    exact congrArg va_rf (if_neg (show ¬ j < i by omega))
def mm_I (cI : ClassId) : Cell := { cls := cI, slots := Array.replicate 6 (.int 0), vm := .none }
theorem mm_Isz (cI : ClassId) : (mm_I cI).slots.size = 6 := Array.size_replicate
theorem mm_Csz (cA : ClassId) (q i : Nat) : (mm_C cA q i).slots.size = 6 := arrV_size _ _ _
/-- the state when i rows are made -/
def mm_S (S : State) (cA cI : ClassId) : Nat → State
  | 0 => S.pushCell (mm_C cA S.heap.size 0)
  | i + 1 => ((mm_S S cA cI i).pushCell (mm_I cI)).setCell S.heap.size (mm_C cA S.heap.size (i + 1))
theorem mm_vm (S : State) (cA cI : ClassId) (i : Nat) : (mm_S S cA cI i).vm = S.vm := by
  induction i with
  | zero => rfl
  | succ i ih => exact ih
theorem mm_top (S : State) (cA cI : ClassId) (i : Nat) : (mm_S S cA cI i).topJava? = S.topJava? := by
  induction i with
  | zero => rfl
  | succ i ih => exact ih
theorem mm_sz (S : State) (cA cI : ClassId) (i : Nat) : (mm_S S cA cI i).heap.size = S.heap.size + 1 + i := by
  induction i with
  | zero => exact Array.size_push _
  | succ i ih =>
    show (((mm_S S cA cI i).heap.push (mm_I cI)).setIfInBounds S.heap.size _).size = _
    rw [Array.size_setIfInBounds, Array.size_push, ih]
    rfl
theorem mm_us (S : State) (cA cI : ClassId) (i : Nat) : (mm_S S cA cI i).slotsUsed = S.slotsUsed + 6 + 6 * i := by
  induction i with
  | zero =>
    show S.slotsUsed + (mm_C cA S.heap.size 0).slots.size = _
    rw [mm_Csz]
  | succ i ih =>
    show (mm_S S cA cI i).slotsUsed + (mm_I cI).slots.size = _
    rw [mm_Isz, ih]
    omega
theorem mm_lt (S : State) (cA cI : ClassId) (i : Nat) (c : Cell) {x : Nat} (hx : x < S.heap.size + 1 + i) : ((mm_S S cA cI i).pushCell c).heap[x]? = (mm_S S cA cI i).heap[x]? := State.heap_pushCell_of_lt _ _ (by rw [mm_sz]; exact hx)
theorem mm_q (S : State) (cA cI : ClassId) (i : Nat) : (mm_S S cA cI i).heap[S.heap.size]? = some (mm_C cA S.heap.size i) := by
  induction i with
  | zero => exact State.heap_pushCell_size _ _
  | succ i ih => exact State.heap_setCell_self ((mm_lt S cA cI i _ (show S.heap.size < _ by omega)).trans ih)
theorem mm_old (S : State) (cA cI : ClassId) (i : Nat) {x : Nat} (hx : x < S.heap.size) : (mm_S S cA cI i).heap[x]? = S.heap[x]? := by
  induction i with
  | zero => exact State.heap_pushCell_of_lt _ _ hx
  | succ i ih => exact (State.heap_setCell_other (show S.heap.size ≠ x by omega)).trans ((mm_lt S cA cI i _ (show x < _ by omega)).trans ih)
theorem mm_in (S : State) (cA cI : ClassId) (i : Nat) {j : Nat} (hj : j < i) : (mm_S S cA cI i).heap[S.heap.size + 1 + j]? = some (mm_I cI) := by
  induction i with
  | zero => exact absurd hj (Nat.not_lt_zero j)
  | succ i ih =>
    refine (State.heap_setCell_other (show S.heap.size ≠ S.heap.size + 1 + j by omega)).trans ?_
    rcases Nat.lt_or_ge j i with h | h
    · exact (mm_lt S cA cI i _ (show S.heap.size + 1 + j < _ by omega)).trans (ih h)
    · rw [show j = i by omega, ← mm_sz S cA cI i]
      exact State.heap_pushCell_size _ _
/-- one row, as the machine's word for several makes it -/
theorem mm_one {cI ci : ClassId} {kI : Class} {n : Int32} {Q : Addr → Pre} (hkI : s.vm.classes[cI]? = some kI) (hI : kI.kind = .array ci .int) (hn : ¬ n < 0) (h6 : n.toNatClampNeg = 6) (hl : ¬ 6 > e.platform.arrayLengthLimit) (hb : ¬ 6 * 4 > e.platform.maxHeapBytes) (hc : s.heap.size < e.platform.maxCells) (hu : s.slotsUsed + 6 ≤ e.platform.maxSlots) (hq : Q s.heap.size d acts (s.pushCell (mm_I cI))) : wp (Jvm.Op.multianewarray.make cI [n]) Q E e d acts s := by
  rw [Jvm.Op.multianewarray.make]
  simp only [wp_bind', Jvm.W.ite, hn, if_false, wp_pure', Jvm.W.theClass, hkI, Option.some.injEq, exists_eq_left', hI, h6]
  exact mm_row hkI hI rfl rfl hl hb hc hu hq
/-- six rows of six -/
theorem mm_two {cA cI ci : ClassId} {kA kI : Class} {n : Int32} {g : JFrame} {Q : Addr → Pre} (hkA : s.vm.classes[cA]? = some kA) (hA : kA.kind = .array cI (.array .int)) (hkI : s.vm.classes[cI]? = some kI) (hI : kI.kind = .array ci .int) (hn : ¬ n < 0) (h6 : n.toNatClampNeg = 6) (h0 : (n == 0) = false) (hl : ¬ 6 > e.platform.arrayLengthLimit) (hb : ¬ 6 * 4 > e.platform.maxHeapBytes) (hc : s.heap.size + 7 ≤ e.platform.maxCells) (hu : s.slotsUsed + 42 ≤ e.platform.maxSlots) (hq : ∀ (d' : Bool) (acts' : List Action), Q s.heap.size d' acts' ((mm_S s cA cI 6).setTop g)) : wp (Jvm.Op.multianewarray.make cA [n, n]) Q E e d acts (s.setTop g) := by
  rw [Jvm.Op.multianewarray.make]
  simp only [wp_bind', Jvm.W.ite, hn, if_false, wp_pure', Jvm.W.theClass, State.vm_setTop, hkA, Option.some.injEq, exists_eq_left', hA, h6, h0, Bool.false_eq_true]
  refine mm_row (s := s.setTop g) hkA hA rfl rfl hl hb (show s.heap.size < _ by omega) (show s.slotsUsed + 6 ≤ _ by omega) ?_
  rw [mm_C0 cA s.heap.size, wp_bind', Std.Legacy.Range.forIn_eq_forIn_range']
  refine wp_forIn_inv (fun r s' => ∃ i k : Nat, i + k = 6 ∧ r = List.range' i k ∧ s' = (mm_S s cA cI i).setTop g) _ _ ⟨0, 6, rfl, rfl, rfl⟩ ?_ ?_
  · rintro x r s' d' acts' Q' ⟨i, k, hik, hr, rfl⟩ hnext
    cases k with
    | zero => cases hr
    | succ k =>
      rw [List.range'_succ] at hr
      injection hr with hx hr
      subst hx
      have hz := mm_sz s cA cI x
      have hw := mm_us s cA cI x
      simp only [wp_bind']
      refine mm_one (s := (mm_S s cA cI x).setTop g) (show (mm_S s cA cI x).vm.classes[cI]? = _ by rw [mm_vm]; exact hkI) hI hn h6 hl hb (show (mm_S s cA cI x).heap.size < _ by omega) (show (mm_S s cA cI x).slotsUsed + 6 ≤ _ by omega) ?_
      simp only [wp_bind', Jvm.W.writeLoc, wp_pure']
      refine ⟨mm_C cA s.heap.size x, (mm_lt s cA cI x _ (show s.heap.size < _ by omega)).trans (mm_q s cA cI x), (fun h => by cases h), (by rw [mm_Csz]; omega), ?_, ?_⟩
      · show State.fitsSlot _ cA .none x (.ref (mm_S s cA cI x).heap.size) = true
        have hkA' : (mm_S s cA cI x).vm.classes[cA]? = some kA := by rw [mm_vm]; exact hkA
        simp [State.fitsSlot, State.slotType?, hkA', hA, fits]
      · refine hnext _ _ _ ⟨x + 1, k, by omega, hr, ?_⟩
        show (((mm_S s cA cI x).pushCell (mm_I cI)).setCell s.heap.size ((mm_C cA s.heap.size x).setSlot x (.ref (mm_S s cA cI x).heap.size))).setTop g = _
        rw [hz, mm_Cs]
        rfl
  · rintro s' d' acts' ⟨i, k, hik, hr, rfl⟩
    cases k with
    | zero =>
      rw [show i = 6 by omega]
      simp only [wp_pure']
      exact hq _ _
    | succ k =>
      rw [List.range'_succ] at hr
      cases hr
theorem mm_wp {index : Nat} {cA cI ci : ClassId} {kA kI : Class} {n : Int32} {f : JFrame} {rest : List Value} {Q : Unit → Pre} (hs : s.topJava?.isSome) (hr : s.vm.classReady f.method.cls index cA) (hkA : s.vm.classes[cA]? = some kA) (hA : kA.kind = .array cI (.array .int)) (hkI : s.vm.classes[cI]? = some kI) (hI : kI.kind = .array ci .int) (hn : ¬ n < 0) (h6 : n.toNatClampNeg = 6) (h0 : (n == 0) = false) (hst : f.stack = .int n :: .int n :: rest) (hl : ¬ 6 > e.platform.arrayLengthLimit) (hb : ¬ 6 * 4 > e.platform.maxHeapBytes) (hc : s.heap.size + 7 ≤ e.platform.maxCells) (hu : s.slotsUsed + 42 ≤ e.platform.maxSlots) (hq : ∀ acts' : List Action, Q () true acts' ((mm_S s cA cI 6).setTop { f with stack := .ref s.heap.size :: rest })) : wp (Jvm.Op.multianewarray.sem index 2) Q E e d acts (s.setTop f) := by
  simp only [Jvm.Op.multianewarray.sem, wp_bind', Jvm.W.resolveClassAt_ready (State.method?_setTop f hs) hr, Jvm.W.popN, if_neg (show ¬ (2 : Nat) = 0 by decide), State.topJava?_setTop' _ hs, Option.some.injEq, exists_eq_left']
  refine ⟨[.int n, .int n], rest, rfl, by rw [hst]; rfl, ?_⟩
  simp only [State.setTop_setTop, List.mapM_cons, List.mapM_nil, wp_bind', wp_pure']
  refine mm_two hkA hA hkI hI hn h6 h0 hl hb hc hu (fun d' acts' => ?_)
  simp only [wp_bind', Jvm.W.mark, Jvm.W.pushRef, State.topJava?_setTop' _ (show (mm_S s cA cI 6).topJava?.isSome by rw [mm_top]; exact hs), Option.some.injEq, exists_eq_left', State.setTop_setTop]
  exact hq _
end MM
section MN
variable {p : Program} {l : Launch} {e : Env} {R : Room} {s : State} {m : MethodId} {args : Array Value} {below : List Frame} {meth : Method} {c : Code} {T : State} {locs : List Loc} {cells slots : Nat}
theorem mm_X (X : Stand p l e R s m args below meth c T locs cells slots) (cA cI : ClassId) (i : Nat) : ∃ lc : List Loc, Stand p l e R s m args below meth c (mm_S T cA cI i) lc (cells + 1 + i) (slots + 6 + 6 * i) ∧ ∀ z ∈ lc, z ∈ locs ∨ z.base = T.heap.size := by
  induction i with
  | zero =>
    have h := X.pushed (mm_C cA T.heap.size 0)
    rw [mm_Csz] at h
    exact ⟨locs, h, fun z hz => Or.inl hz⟩
  | succ i ih =>
    obtain ⟨lc, X1, h1⟩ := ih
    have X2 := (X1.pushed (mm_I cI)).stored (a := T.heap.size) ((mm_lt T cA cI i _ (show T.heap.size < _ by omega)).trans (mm_q T cA cI i)) i (.ref (T.heap.size + 1 + i))
    rw [mm_Cs, mm_Isz] at X2
    refine ⟨_, X2, fun z hz => ?_⟩
    rcases List.mem_append.mp hz with h | h
    · exact h1 z h
    · rw [List.mem_singleton.mp h]
      exact Or.inr rfl
theorem mm_step (X : Stand p l e R s m args below meth c T locs cells slots) (hexec : p.tables.exec = Jvm.exec) {own : String} {index : Nat} {cA cI ci : ClassId} {kA kI : Class} (hown : s.vm.findClass own = some m.cls) (hw : (Cond.classLink own index ("[" ++ (FieldType.array .int).toString)).before args s = true) (fA : s.vm.findClass ("[" ++ (FieldType.array .int).toString) = some cA) (hkA : s.vm.classes[cA]? = some kA) (hA : kA.kind = .array cI (.array .int)) (hkI : s.vm.classes[cI]? = some kI) (hI : kI.kind = .array ci .int) {g : JFrame} (hg : g.method = m) (hdg : decode c.code g.pc = .ok (.multianewarray index 2, 4)) {n : Int32} {rest : List Value} (hst : g.stack = .int n :: .int n :: rest) (hn : ¬ n < 0) (h6 : n.toNatClampNeg = 6) (h0 : (n == 0) = false) (hc : cells + 7 ≤ R.cells) (hs : slots + 42 ≤ R.slots) : ∃ (vm₁ : Vm) (lc : List Loc), Stand p l e R s m args below meth c (mm_S (T.setVm vm₁) cA cI 6) lc (cells + 7) (slots + 42) ∧ (∀ z ∈ lc, z ∈ locs ∨ z.base = T.heap.size) ∧ ∀ target, Steps p.tables e below ((mm_S (T.setVm vm₁) cA cI 6).setTop { g with pc := g.pc + 4, stack := .ref T.heap.size :: rest }) target → Steps p.tables e below (T.setTop g) target := by
  subst hg
  have hpl : e.platform.magicAccessors = ({} : Platform).magicAccessors := by rw [X.admits.platform]
  obtain ⟨cc, hfcc, hcl⟩ := Cond.classLink_spec hown hw e.platform hpl
  cases fA.symm.trans hfcc
  obtain ⟨hg1, hw1, hr1⟩ := State.classEntry (e := e) X.warmed hcl
  generalize T.vm.noted g.method.cls index (.cls cA) = vm₁ at hg1 hw1 hr1
  have hal : s.vm.Alike vm₁ := hw1.alike
  obtain ⟨kA', hkA', eA⟩ := hal.2.2 _ _ hkA
  obtain ⟨kI', hkI', eI⟩ := hal.2.2 _ _ hkI
  have hA' : kA'.kind = .array cI (.array .int) := by rw [eA]; exact hA
  have hI' : kI'.kind = .array ci .int := by rw [eI]; exact hI
  have X1 := X.noted hw1
  obtain ⟨lc, X2, h2⟩ := mm_X X1 cA cI 6
  obtain ⟨r1, r2⟩ := X1.roomAbove hc hs
  refine ⟨vm₁, lc, X2, h2, fun target hrest => ?_⟩
  refine Steps.instr (c := c) X.here ?_
  rw [hdg]
  show wpRun (p.tables.exec (.multianewarray index 2)) _ _ _ _
  rw [hexec]
  show wp (Jvm.Op.multianewarray.sem index 2) _ _ e false [] (T.setTop g)
  simp only [Jvm.Op.multianewarray.sem, wp_bind']
  refine (Jvm.W.resolveClassAt_transfer (s := T.setTop g) (State.method?_setTop g X.here.top) hg1 hr1).mpr ?_
  have key := mm_wp (s := T.setVm vm₁) (f := g) (e := e) (d := false) (acts := []) (E := fun x _ s₁ => ∀ acts, Steps p.tables e below (afterInstr e 4 (.ctl x s₁ acts)).1 target) (Q := fun _ _ _ s₁ => ∀ acts, Steps p.tables e below (afterInstr e 4 (.ok () s₁ acts)).1 target) (X.noted hw1).here.top hr1 hkA' hA' hkI' hI' hn h6 h0 hst (by rw [Launch.admits_arrayLengthLimit X.admits]; decide) (by rw [Launch.admits_maxHeapBytes X.admits]; decide) r1 r2 (fun acts' acts => by rw [afterInstr_ok]; exact hrest)
  simp only [Jvm.Op.multianewarray.sem, wp_bind'] at key
  exact key
end MN
/-- the world behind a making of several cells -/
theorem pw_pushN {xs : pw_M} {s : State} {H H1 : Heap} {G : pw_G} {mem : pw_M} (Wd : pw_Wd G mem s H) (hz1 : H1.size = H.size + xs.length) (hq : ∀ a : Nat, a < H.size → H1[a]? = H[a]?) (hx : ∀ (i : Nat) (x : pw_E), xs[i]? = some x → va_at G.1 vwCl (H.size + i, pw_e G x) H1) : pw_Wd G (mem ++ xs) s H1 := by
  refine ⟨by rw [List.length_append]; exact Nat.le_trans Wd.1 (Nat.le_add_right _ _), by rw [List.length_append, hz1, Wd.2.1]; have := Wd.1; omega, ?_, Wd.2.2.2.1, (Wd.2.2.2.2.kept (fun a h1 _ => hq a h1)).app Wd.1 _⟩
  intro k q hk
  rw [pw_ws_at] at hk
  by_cases hl : 9 + k < mem.length
  · rw [List.getElem?_append_left hl, ← pw_ws_at] at hk
    exact Wd.2.2.1.kept (fun k q hk => hq q.1 ((Wd.2.2.1 k q hk).lt)) k q hk
  · rw [List.getElem?_append_right (by omega)] at hk
    obtain ⟨x, hx1, hx2⟩ := Option.map_eq_some_iff.mp hk
    have h1 := hx _ _ hx1
    rw [show H.size + (9 + k - mem.length) = G.2.2.1 + k by rw [Wd.2.1]; have := Wd.1; omega, hx2] at h1
    exact h1
section MNA
variable {l : Launch} {G : pw_G} {Y : pw_Y} {R : Room} {mc ms k n pc : Nat} {ls : List (Nat × Value)} {st : List Value} {mem : pw_M} {Q : Option Value → pw_M → Prop}
def mna_L (b : Nat) : pw_M := [.inl (4, 6, .inr (.inr (fun i => if i < 6 then some (b + 1 + i) else none))), .inl (0, 6, .inl (fun _ => 0)), .inl (0, 6, .inl (fun _ => 0)), .inl (0, 6, .inl (fun _ => 0)), .inl (0, 6, .inl (fun _ => 0)), .inl (0, 6, .inl (fun _ => 0)), .inl (0, 6, .inl (fun _ => 0))]
theorem mna_at {b i : Nat} {x : pw_E} (h : (mna_L b)[i + 1]? = some x) : i < 6 ∧ x = .inl (0, 6, .inl (fun _ => 0)) := by
  rcases i with _ | _ | _ | _ | _ | _ | i
  · exact ⟨by omega, (Option.some.inj h).symm⟩
  · exact ⟨by omega, (Option.some.inj h).symm⟩
  · exact ⟨by omega, (Option.some.inj h).symm⟩
  · exact ⟨by omega, (Option.some.inj h).symm⟩
  · exact ⟨by omega, (Option.some.inj h).symm⟩
  · exact ⟨by omega, (Option.some.inj h).symm⟩
  · cases h
theorem PW.mna {idx : Nat} (hw : Cond.classLink Y.1.cls idx ("[" ++ (FieldType.array .int).toString) ∈ pw_tbl) (hc : k + 7 ≤ R.cells ∧ n + 42 ≤ R.slots) (d : decode Y.2.1 pc = .ok (.multianewarray idx 2, 4)) (kk : PW (l, G, Y, R, mc, ms) (k + 7) (n + 42) (pc + 4) ls (.ref mem.length :: st) (mem ++ mna_L mem.length) Q) : PW (l, G, Y, R, mc, ms) k n pc ls (.int (nI 6) :: .int (nI 6) :: st) mem Q := by
  intro p e s m args below meth c H locs la C Wd S0 hz hl0
  have hts := C.2.2.2.2.2.2.2.1
  have fA : s.vm.findClass ("[" ++ (FieldType.array .int).toString) = some (G.2.1 4) := (Wd.2.2.2.1.2 4 _ rfl).2
  have fI : s.vm.findClass ("[" ++ FieldType.int.toString) = some (G.2.1 0) := (Wd.2.2.2.1.2 0 _ rfl).2
  obtain ⟨c1, c2, kA, g1, -, g3, g4, g5⟩ := arrayOverA_spec C.2.2.2.2.2.2.2.2.2.2
  cases (fA.symm.trans g5)
  cases (fI.symm.trans g1)
  obtain ⟨-, kI, hkI, ci, hI⟩ := (Wd.2.2.2.1.2 0 _ rfl).1 0 (fun _ => .null)
  intro T hT X
  obtain ⟨vm₁, lc, X', hlc, step⟩ := mm_step X C.1 C.2.2.2.2.2.2.1 (hts _ hw) fA g3 g4 hkI hI (g := F0 m pc la (.int (nI 6) :: .int (nI 6) :: st.map (pw_v G))) rfl (by rw [C.2.1]; exact d) (n := nI 6) (rest := st.map (pw_v G)) rfl (by decide) (by decide) (by decide) hc.1 hc.2
  have hTh : (T.setVm vm₁).heap = H := hT
  have f1 := mm_sz (T.setVm vm₁) (G.2.1 4) (G.2.1 0) 6
  have f2 := mm_q (T.setVm vm₁) (G.2.1 4) (G.2.1 0) 6
  have f3 : ∀ x : Nat, x < H.size → (mm_S (T.setVm vm₁) (G.2.1 4) (G.2.1 0) 6).heap[x]? = H[x]? := fun x hx => by
    have h := mm_old (T.setVm vm₁) (G.2.1 4) (G.2.1 0) 6 (x := x) (by rw [hTh]; exact hx)
    rw [hTh] at h
    exact h
  have f4 : ∀ j : Nat, j < 6 → (mm_S (T.setVm vm₁) (G.2.1 4) (G.2.1 0) 6).heap[H.size + 1 + j]? = some (mm_I (G.2.1 0)) := fun j hj => by
    have h := mm_in (T.setVm vm₁) (G.2.1 4) (G.2.1 0) 6 hj
    rw [hTh] at h
    exact h
  rw [hTh] at f1 f2
  generalize mm_S (T.setVm vm₁) (G.2.1 4) (G.2.1 0) 6 = F at X' step f1 f2 f3 f4
  have hI0 : mm_I (G.2.1 0) = vp_cell (G.2.1 0) (6, .inl (fun _ => 0)) := by
    show ({ cls := G.2.1 0, slots := Array.replicate 6 (.int 0), vm := .none } : Cell) = _
    rw [arrV_new]
    rfl
  have hnx := pw_next Wd
  have hout : mm_C (G.2.1 4) H.size 6 = vp_cell (G.2.1 4) (6, .inr (.inr (.inr (.inr (fun i => (if i < 6 then some (mem.length + 1 + i) else none).map (pw_ad G)))))) := by
    rw [vp_cell_q]
    unfold mm_C
    refine congrArg (arrV (G.2.1 4) 6) (funext fun j => ?_)
    by_cases h : j < 6
    · rw [if_pos h, if_pos h]
      have h9 := Wd.1
      have e1 : pw_ad G (mem.length + 1 + j) = H.size + 1 + j := by
        rw [Wd.2.1]
        simp only [pw_ad, if_neg (show ¬ mem.length + 1 + j < 9 by omega)]
        omega
      rw [Option.map_some, e1]
    · rw [if_neg h, if_neg h]
      rfl
  rw [hout] at f2
  rw [hI0] at f4
  have hW1 : pw_Wd G (mem ++ mna_L mem.length) s F.heap := by
    refine pw_pushN Wd (by rw [f1]; rfl) f3 (fun i x hx => ?_)
    rcases i with _ | i
    · rw [← Option.some.inj hx]
      exact f2
    · obtain ⟨h6, rfl⟩ := mna_at hx
      rw [show H.size + (i + 1) = H.size + 1 + i by omega]
      exact f4 i h6
  have hS1 := pw_S S0 (H1 := F.heap) (by rw [f1]; omega) f3
  have hS2 : va_S (pw_A G) s.heap F.heap lc := ⟨hS1.1, hS1.2.1, fun z hz => (hlc z hz).elim (fun h => hS1.2.2 z h) (fun h => by rw [h, hT, ← hnx]; exact pw_Ar Wd.1)⟩
  obtain ⟨t, a1, b1⟩ := kk p e s m args below meth c F.heap lc la C hW1 hS2 hz hl0 F rfl X'
  refine ⟨t, step t ?_, b1⟩
  have e9 : T.heap.size = pw_ad G mem.length := by rw [hT, hnx]
  rw [e9]
  exact a1
end MNA
