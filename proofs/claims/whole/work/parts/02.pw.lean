/-! ===== the pure logic: a memory of cells by number (the first nine are read only: eight static rows, the script), and what the machine does to it ===== -/
abbrev pw_E : Type := (Nat × Nat × ((Nat → Int32) ⊕ (Nat → Int64) ⊕ (Nat → Option Nat))) ⊕ (Nat × List Value)
abbrev pw_M : Type := List pw_E
abbrev pw_G : Type := va_G × (Nat → ClassId) × Nat × (Nat → Nat)
abbrev pw_Y : Type := MethodName × ByteArray × Nat × Option FieldType
def pw_ad (G : pw_G) (r : Nat) : Nat := if r < 9 then G.2.2.2 r else G.2.2.1 + (r - 9)
def pw_v (G : pw_G) : Value → Value
  | .ref r => .ref (pw_ad G r)
  | v => v
def pw_e (G : pw_G) : pw_E → va_E
  | .inl (t, n, .inl f) => .inl (G.2.1 t, n, .inl f)
  | .inl (t, n, .inr (.inl f)) => .inl (G.2.1 t, n, .inr (.inl f))
  | .inl (t, n, .inr (.inr f)) => .inl (G.2.1 t, n, .inr (.inr (.inr (.inr (fun i => (f i).map (pw_ad G))))))
  | .inr (c, vs) => .inr (c, vs.map (pw_v G))
def pw_ws (G : pw_G) (mem : pw_M) : va_W := (mem.drop 9).mapIdx (fun i e => (G.2.2.1 + i, pw_e G e))
theorem pw_ws_at (G : pw_G) (mem : pw_M) (k : Nat) : (pw_ws G mem)[k]? = (mem[9 + k]?).map (fun e => (G.2.2.1 + k, pw_e G e)) := by
  simp [pw_ws, List.getElem?_mapIdx, List.getElem?_drop]
theorem pw_ws_get {G : pw_G} {mem : pw_M} {r : Nat} {x : pw_E} (h9 : 9 ≤ r) (h : mem[r]? = some x) : (pw_ws G mem)[r - 9]? = some (pw_ad G r, pw_e G x) := by
  rw [pw_ws_at, show 9 + (r - 9) = r by omega, h]
  simp only [Option.map_some, pw_ad, if_neg (show ¬ r < 9 by omega)]
theorem pw_ws_set {G : pw_G} {mem : pw_M} {r : Nat} {x : pw_E} (h9 : 9 ≤ r) : pw_ws G (mem.set r x) = (pw_ws G mem).set (r - 9) (pw_ad G r, pw_e G x) := by
  apply List.ext_getElem?
  intro k
  rw [pw_ws_at, List.getElem?_set, List.getElem?_set, pw_ws_at]
  have hlen : (pw_ws G mem).length = mem.length - 9 := by simp [pw_ws]
  by_cases hk : r = 9 + k
  · subst hk
    rw [if_pos rfl, show 9 + k - 9 = k by omega, if_pos rfl, hlen]
    by_cases hl : 9 + k < mem.length
    · rw [if_pos hl, if_pos (by omega)]
      simp only [Option.map_some, pw_ad, if_neg (show ¬ 9 + k < 9 by omega), show 9 + k - 9 = k by omega]
    · rw [if_neg hl, if_neg (by omega)]
      rfl
  · rw [if_neg hk, if_neg (by omega)]
theorem pw_ws_app {G : pw_G} {mem : pw_M} {x : pw_E} (h : 9 ≤ mem.length) : pw_ws G (mem ++ [x]) = pw_ws G mem ++ [(pw_ad G mem.length, pw_e G x)] := by
  have e : pw_ad G mem.length = G.2.2.1 + (mem.length - 9) := by simp only [pw_ad, if_neg (show ¬ mem.length < 9 by omega)]
  rw [e]
  simp [pw_ws, List.drop_append_of_le_length h, List.mapIdx_append]
def pw_A (G : pw_G) : Nat → Prop := fun q => G.2.2.1 ≤ q
theorem pw_D (G : pw_G) (mem : pw_M) : va_D (pw_A G) (pw_ws G mem) := by
  have at' : ∀ (k : Nat) (q : Nat × va_E), (pw_ws G mem)[k]? = some q → q.1 = G.2.2.1 + k := by
    intro k q h
    rw [pw_ws_at] at h
    obtain ⟨x, -, hx⟩ := Option.map_eq_some_iff.mp h
    rw [← hx]
  refine ⟨fun i j p q hi hj hpq => ?_, fun k q hk => ?_⟩
  · have h1 := at' i p hi
    have h2 := at' j q hj
    omega
  · have h1 := at' k q hk
    show G.2.2.1 ≤ q.1
    omega
def pw_tys (G : pw_G) : List (ClassId × FieldType) := [(G.2.1 0, .int), (G.2.1 1, .boolean), (G.2.1 2, .long), (G.2.1 3, .object "PocketLaws$Now"), (G.2.1 4, .array .int)]
def pw_sn : Nat → String
  | 0 => "POCKET_ITEM"
  | 1 => "PAIR_ITEM"
  | 2 => "HOLE_ITEM"
  | 3 => "TREATY_ITEM"
  | 4 => "THING_ITEM"
  | 5 => "NO_ITEM"
  | 6 => "LEAST"
  | _ => "MOST"
def pw_RO (G : pw_G) (mem : pw_M) (U : State) (H : Heap) : Prop :=
  (∀ (r n : Nat) (f : Nat → Int32), r < 9 → mem[r]? = some (.inl (0, n, .inl f)) → va_T .int (G.2.2.2 r) n (fun j => .int (f j)) (pw_A G) U H) ∧
  ∀ k, k < 8 → va_Z "PocketLaws$Text" (pw_sn k) "[I" (.ref (G.2.2.2 k)) (pw_A G) U H
theorem pw_RO.moved {G : pw_G} {mem : pw_M} {u U : State} {H : Heap} (hvm : u.vm.Alike U.vm) (h : pw_RO G mem u H) : pw_RO G mem U H :=
  ⟨fun r n f hr hm => (h.1 r n f hr hm).moved hvm, fun k hk => (h.2 k hk).moved hvm⟩
theorem pw_RO.kept {G : pw_G} {mem : pw_M} {U : State} {H H1 : Heap} (h : pw_RO G mem U H) (hq : ∀ a : Nat, a < H.size → ¬ pw_A G a → H1[a]? = H[a]?) : pw_RO G mem U H1 :=
  ⟨fun r n f hr hm => (h.1 r n f hr hm).kept hq, fun k hk => (h.2 k hk).kept hq⟩
theorem pw_RO.set {G : pw_G} {mem : pw_M} {U : State} {H : Heap} (h : pw_RO G mem U H) {r : Nat} (h9 : 9 ≤ r) (x : pw_E) : pw_RO G (mem.set r x) U H :=
  ⟨fun r' n f hr hm => h.1 r' n f hr (by rw [List.getElem?_set, if_neg (show ¬ r = r' by omega)] at hm; exact hm), h.2⟩
theorem pw_RO.app {G : pw_G} {mem : pw_M} {U : State} {H : Heap} (h : pw_RO G mem U H) (h9 : 9 ≤ mem.length) (x : pw_M) : pw_RO G (mem ++ x) U H :=
  ⟨fun r' n f hr hm => h.1 r' n f hr (by rw [List.getElem?_append_left (by omega)] at hm; exact hm), h.2⟩
def pw_Wd (G : pw_G) (mem : pw_M) (U : State) (H : Heap) : Prop :=
  9 ≤ mem.length ∧ H.size = G.2.2.1 + (mem.length - 9) ∧ va_P G.1 vwCl (pw_ws G mem) H ∧ va_K G.1 vwCl (pw_tys G) U ∧ pw_RO G mem U H
theorem pw_Wd.moved {G : pw_G} {mem : pw_M} {u U : State} {H : Heap} (hvm : u.vm.Alike U.vm) (h : pw_Wd G mem u H) : pw_Wd G mem U H :=
  ⟨h.1, h.2.1, h.2.2.1, h.2.2.2.1.moved hvm, h.2.2.2.2.moved hvm⟩
def pw_tbl : List Cond := lw_tbl.filter goodWord
theorem pw_in {w : Cond} (h : w ∈ lw_tbl) (hg : goodWord w = true) : w ∈ pw_tbl := List.mem_filter.mpr ⟨h, hg⟩
theorem pw_good : GoodIn pw_tbl pw_tbl := fun w h => ⟨h, good_of_word (List.mem_filter.mp h).2⟩
/-- words that stay only as the tables of a state have them: links to nest mates' private members, rows over a class -/
def pw_N (U : State) : Prop := (∀ (a : String) (i : Nat) (x : MethodName) (h : String), Cond.methodLinkNest a i x h ∈ lw_tbl → va_Nw (.methodLinkNest a i x h) U) ∧ va_AO "PocketLaws$Now" U ∧ (Cond.arrayOver (.array .int)).before #[] U = true
theorem pw_N.warm {s U : State} (hW : s.WarmedH U.vm) (h : pw_N s) : pw_N U := ⟨fun a i x y hx => va_Nw.warmM hW (h.1 a i x y hx), h.2.1.moved hW.alike, over_moved hW.alike h.2.2⟩
theorem pw_N.same {u U : State} (hv : u.vm = U.vm) (h : pw_N u) : pw_N U := ⟨fun a i x y hx => va_Nw.same rfl hv (h.1 a i x y hx), h.2.1.moved (by rw [hv]; exact Vm.Alike.refl _), over_moved (by rw [hv]; exact Vm.Alike.refl _) h.2.2⟩
def pw_rm (h mc ms : Nat) : Room := { frames := h, cells := mc, slots := ms, locals := 100 * h }
def pw_Qc (G : pw_G) (Q : Option Value → pw_M → Prop) : Array Value → State → Outcome → State → Prop := fun _ st oc t =>
  ∃ (v : Option Value) (mem : pw_M), oc = .returned (v.map (pw_v G)) ∧ Q v mem ∧ pw_Wd G mem t t.heap ∧ va_F (pw_A G) st t
def pw_Cx (p : Program) (s : State) (m : MethodId) (args : Array Value) (meth : Method) (c : Code) (Y : pw_Y) : Prop :=
  p.tables.exec = Jvm.exec ∧ c.code = Y.2.1 ∧ c.maxLocals = Y.2.2.1 ∧ meth.sig.returnType = Y.2.2.2 ∧ meth.locks = false ∧ meth.name = Y.1.name ∧ s.vm.findClass Y.1.cls = some m.cls ∧ (∀ w ∈ pw_tbl, w.before args s = true) ∧ pw_N s
abbrev pw_X : Type := Launch × pw_G × pw_Y × Room × Nat × Nat
def pw_ls (G : pw_G) (ls : List (Nat × Value)) : List (Nat × Value) := ls.map (fun q => (q.1, pw_v G q.2))
/-- the machine, at pc of the method, with the locals ls, the stack st, the memory mem, comes to a return with Q -/
def PW (X : pw_X) (k n : Nat) (pc : Nat) (ls : List (Nat × Value)) (st : List Value) (mem : pw_M) (Q : Option Value → pw_M → Prop) : Prop :=
  ∀ (p : Program) (e : Env) (s : State) (m : MethodId) (args : Array Value) (below : List Frame) (meth : Method) (c : Code) (H : Heap) (locs : List Loc) (la : Array Slot),
    pw_Cx p s m args meth c X.2.2.1 → pw_Wd X.2.1 mem s H → va_S (pw_A X.2.1) s.heap H locs → X.2.1.2.2.1 ≤ s.heap.size → lv_has la X.2.2.1.2.2.1 (pw_ls X.2.1 ls) →
    W p X.1 e X.2.2.2.1 s m args below meth c H locs k n (MQ below (pw_Qc X.2.1 Q) args s X.2.2.2.2.1 X.2.2.2.2.2 (pw_A X.2.1)) (F0 m pc la (st.map (pw_v X.2.1)))
def lk : List (Nat × Value) → Nat → Option Value
  | [], _ => none
  | (j, v) :: t, i => if j = i then some v else lk t i
theorem pw_lk {G : pw_G} {la : Array Slot} {nL : Nat} {v : Value} : ∀ {ls : List (Nat × Value)} {i : Nat}, lv_has la nL (pw_ls G ls) → lk ls i = some v → la[i]? = some (.val (pw_v G v)) := by
  intro ls i h hl
  have key : ∀ (l : List (Nat × Value)), lk l i = some v → (i, v) ∈ l := by
    intro l
    induction l with
    | nil => intro h; cases h
    | cons q t ih =>
      obtain ⟨j, w⟩ := q
      intro h
      simp only [lk] at h
      by_cases e : j = i
      · rw [if_pos e] at h
        cases h
        subst e
        exact List.mem_cons_self
      · rw [if_neg e] at h
        exact List.mem_cons_of_mem _ (ih h)
  exact h.2.2 (i, pw_v G v) (List.mem_map.mpr ⟨(i, v), key ls hl, rfl⟩)
/-- fewer locals -/
theorem pw_fewer {G : pw_G} {la : Array Slot} {nL : Nat} {ls ls' : List (Nat × Value)} (h : lv_has la nL (pw_ls G ls)) (hs : ∀ q ∈ ls', q ∈ ls) : lv_has la nL (pw_ls G ls') :=
  ⟨h.1, h.2.1, fun q hq => by
    obtain ⟨x, hx, e⟩ := List.mem_map.mp hq
    exact h.2.2 q (List.mem_map.mpr ⟨x, hs x hx, e⟩)⟩
def ins : List (Nat × Value) → Nat → Value → List (Nat × Value)
  | [], i, v => [(i, v)]
  | (j, w) :: t, i, v => if i < j then (i, v) :: (j, w) :: t else (j, w) :: ins t i v
theorem ins_mem {q : Nat × Value} : ∀ {l : List (Nat × Value)} {i : Nat} {v : Value}, q ∈ ins l i v → q = (i, v) ∨ q ∈ l := by
  intro l
  induction l with
  | nil => intro i v h; simp only [ins, List.mem_singleton] at h; exact Or.inl h
  | cons x t ih =>
    obtain ⟨j, w⟩ := x
    intro i v h
    simp only [ins] at h
    by_cases e : i < j
    · rw [if_pos e] at h
      rcases List.mem_cons.mp h with h | h
      · exact Or.inl h
      · exact Or.inr h
    · rw [if_neg e] at h
      rcases List.mem_cons.mp h with h | h
      · exact Or.inr (by rw [h]; exact List.mem_cons_self)
      · rcases ih h with h | h
        · exact Or.inl h
        · exact Or.inr (List.mem_cons_of_mem _ h)
def st1 (l : List (Nat × Value)) (i : Nat) (v : Value) : List (Nat × Value) := ins (l.filter (fun q => !(q.1 == i) && !(q.1 + 1 == i && q.2.category == 2))) i v
def st2 (l : List (Nat × Value)) (i : Nat) (v : Value) : List (Nat × Value) := ins (l.filter (fun q => !(q.1 == i) && (!(q.1 == i + 1) && !(q.1 + 1 == i && q.2.category == 2)))) i v
theorem pw_cat (G : pw_G) (v : Value) : (pw_v G v).category = v.category := by cases v <;> rfl
theorem pw_st1 {G : pw_G} {ls : List (Nat × Value)} {i : Nat} {v : Value} {la : Array Slot} {nL : Nat} (h : lv_has la nL ((i, pw_v G v) :: (pw_ls G ls).filter (fun q => !(q.1 == i) && !(q.1 + 1 == i && q.2.category == 2)))) : lv_has la nL (pw_ls G (st1 ls i v)) := by
  refine ⟨h.1, h.2.1, fun q hq => h.2.2 q ?_⟩
  obtain ⟨x, hx, rfl⟩ := List.mem_map.mp hq
  rcases ins_mem hx with rfl | hx
  · exact List.mem_cons_self
  · obtain ⟨h1, h2⟩ := List.mem_filter.mp hx
    refine List.mem_cons_of_mem _ (List.mem_filter.mpr ⟨List.mem_map.mpr ⟨x, h1, rfl⟩, ?_⟩)
    simpa only [pw_cat] using h2
theorem pw_st2 {G : pw_G} {ls : List (Nat × Value)} {i : Nat} {v : Value} {la : Array Slot} {nL : Nat} (h : lv_has la nL ((i, pw_v G v) :: (pw_ls G ls).filter (fun q => !(q.1 == i) && (!(q.1 == i + 1) && !(q.1 + 1 == i && q.2.category == 2))))) : lv_has la nL (pw_ls G (st2 ls i v)) := by
  refine ⟨h.1, h.2.1, fun q hq => h.2.2 q ?_⟩
  obtain ⟨x, hx, rfl⟩ := List.mem_map.mp hq
  rcases ins_mem hx with rfl | hx
  · exact List.mem_cons_self
  · obtain ⟨h1, h2⟩ := List.mem_filter.mp hx
    refine List.mem_cons_of_mem _ (List.mem_filter.mpr ⟨List.mem_map.mpr ⟨x, h1, rfl⟩, ?_⟩)
    simpa only [pw_cat] using h2
section PWR
variable {l : Launch} {G : pw_G} {Y : pw_Y} {R : Room} {mc ms k n pc : Nat} {ls : List (Nat × Value)} {st : List Value} {mem : pw_M} {Q : Option Value → pw_M → Prop}
theorem PW.drop {X : pw_X} (ls' : List (Nat × Value)) (hs : ∀ q ∈ ls', q ∈ ls) (kk : PW X k n pc ls' st mem Q) : PW X k n pc ls st mem Q :=
  fun p e s m args below meth c H locs la C Wd S0 hz hl0 => kk p e s m args below meth c H locs la C Wd S0 hz (pw_fewer hl0 hs)
theorem PW.wide {X : pw_X} {k' n' : Nat} (h1 : k ≤ k') (h2 : n ≤ n') (kk : PW X k' n' pc ls st mem Q) : PW X k n pc ls st mem Q :=
  fun p e s m args below meth c H locs la C Wd S0 hz hl0 => W.widen h1 h2 (kk p e s m args below meth c H locs la C Wd S0 hz hl0)
theorem PW.iconst {z : Int} {v : Int32} (hv : Int32.ofInt z = v) (d : decode Y.2.1 pc = .ok (.iconst z, 1)) (kk : PW (l, G, Y, R, mc, ms) k n (pc + 1) ls (.int v :: st) mem Q) : PW (l, G, Y, R, mc, ms) k n pc ls st mem Q := by
  intro p e s m args below meth c H locs la C Wd S0 hz hl0
  refine lv_iconst C.1 C.2.1 d hv ?_
  exact kk p e s m args below meth c H locs la C Wd S0 hz hl0
theorem PW.bipush {z : Int} {v : Int32} (hv : (Int8.ofInt z).toInt32 = v) (d : decode Y.2.1 pc = .ok (.bipush z, 2)) (kk : PW (l, G, Y, R, mc, ms) k n (pc + 2) ls (.int v :: st) mem Q) : PW (l, G, Y, R, mc, ms) k n pc ls st mem Q := by
  intro p e s m args below meth c H locs la C Wd S0 hz hl0
  refine lv_bipush C.1 C.2.1 d hv ?_
  exact kk p e s m args below meth c H locs la C Wd S0 hz hl0
theorem PW.sipush {z : Int} {v : Int32} (hv : (Int16.ofInt z).toInt32 = v) (d : decode Y.2.1 pc = .ok (.sipush z, 3)) (kk : PW (l, G, Y, R, mc, ms) k n (pc + 3) ls (.int v :: st) mem Q) : PW (l, G, Y, R, mc, ms) k n pc ls st mem Q := by
  intro p e s m args below meth c H locs la C Wd S0 hz hl0
  refine lv_sipush C.1 C.2.1 d hv ?_
  exact kk p e s m args below meth c H locs la C Wd S0 hz hl0
theorem PW.lconst {z : Fin 2} {v : Int64} (hv : Int64.ofNat (z : Nat) = v) (d : decode Y.2.1 pc = .ok (.lconst z, 1)) (kk : PW (l, G, Y, R, mc, ms) k n (pc + 1) ls (.long v :: st) mem Q) : PW (l, G, Y, R, mc, ms) k n pc ls st mem Q := by
  intro p e s m args below meth c H locs la C Wd S0 hz hl0
  refine lv_lconst C.1 C.2.1 d hv ?_
  exact kk p e s m args below meth c H locs la C Wd S0 hz hl0
theorem PW.iload_n {i : Fin 4} {j : Nat} {x : Int32} (hi : (i : Nat) = j) (hl : lk ls j = some (.int x)) (d : decode Y.2.1 pc = .ok (.iload_n i, 1)) (kk : PW (l, G, Y, R, mc, ms) k n (pc + 1) ls (.int x :: st) mem Q) : PW (l, G, Y, R, mc, ms) k n pc ls st mem Q := by
  intro p e s m args below meth c H locs la C Wd S0 hz hl0
  refine lv_iload_n C.1 C.2.1 d hi (pw_lk hl0 hl) ?_
  exact kk p e s m args below meth c H locs la C Wd S0 hz hl0
theorem PW.lload_n {i : Fin 4} {j : Nat} {x : Int64} (hi : (i : Nat) = j) (hl : lk ls j = some (.long x)) (d : decode Y.2.1 pc = .ok (.lload_n i, 1)) (kk : PW (l, G, Y, R, mc, ms) k n (pc + 1) ls (.long x :: st) mem Q) : PW (l, G, Y, R, mc, ms) k n pc ls st mem Q := by
  intro p e s m args below meth c H locs la C Wd S0 hz hl0
  refine lv_lload_n C.1 C.2.1 d hi (pw_lk hl0 hl) ?_
  exact kk p e s m args below meth c H locs la C Wd S0 hz hl0
theorem PW.aload_n {i : Fin 4} {j : Nat} {x : Nat} (hi : (i : Nat) = j) (hl : lk ls j = some (.ref x)) (d : decode Y.2.1 pc = .ok (.aload_n i, 1)) (kk : PW (l, G, Y, R, mc, ms) k n (pc + 1) ls (.ref x :: st) mem Q) : PW (l, G, Y, R, mc, ms) k n pc ls st mem Q := by
  intro p e s m args below meth c H locs la C Wd S0 hz hl0
  refine lv_aload_n C.1 C.2.1 d hi (pw_lk hl0 hl) ?_
  exact kk p e s m args below meth c H locs la C Wd S0 hz hl0
theorem PW.iload {i : Nat} {x : Int32} (hl : lk ls i = some (.int x)) (d : decode Y.2.1 pc = .ok (.iload i, 2)) (kk : PW (l, G, Y, R, mc, ms) k n (pc + 2) ls (.int x :: st) mem Q) : PW (l, G, Y, R, mc, ms) k n pc ls st mem Q := by
  intro p e s m args below meth c H locs la C Wd S0 hz hl0
  refine lv_iload C.1 C.2.1 d (pw_lk hl0 hl) ?_
  exact kk p e s m args below meth c H locs la C Wd S0 hz hl0
theorem PW.lload {i : Nat} {x : Int64} (hl : lk ls i = some (.long x)) (d : decode Y.2.1 pc = .ok (.lload i, 2)) (kk : PW (l, G, Y, R, mc, ms) k n (pc + 2) ls (.long x :: st) mem Q) : PW (l, G, Y, R, mc, ms) k n pc ls st mem Q := by
  intro p e s m args below meth c H locs la C Wd S0 hz hl0
  refine lv_lload C.1 C.2.1 d (pw_lk hl0 hl) ?_
  exact kk p e s m args below meth c H locs la C Wd S0 hz hl0
theorem PW.aload {i : Nat} {x : Nat} (hl : lk ls i = some (.ref x)) (d : decode Y.2.1 pc = .ok (.aload i, 2)) (kk : PW (l, G, Y, R, mc, ms) k n (pc + 2) ls (.ref x :: st) mem Q) : PW (l, G, Y, R, mc, ms) k n pc ls st mem Q := by
  intro p e s m args below meth c H locs la C Wd S0 hz hl0
  refine lv_aload C.1 C.2.1 d (pw_lk hl0 hl) ?_
  exact kk p e s m args below meth c H locs la C Wd S0 hz hl0
theorem PW.istore_n {i : Fin 4} {j : Nat} {x : Int32} (hi : (i : Nat) = j) (hn : j < Y.2.2.1) (d : decode Y.2.1 pc = .ok (.istore_n i, 1)) (kk : PW (l, G, Y, R, mc, ms) k n (pc + 1) (st1 ls j (.int x)) st mem Q) : PW (l, G, Y, R, mc, ms) k n pc ls (.int x :: st) mem Q := by
  intro p e s m args below meth c H locs la C Wd S0 hz hl0
  refine lv_istore_n C.1 C.2.1 d hi hl0 hn rfl (fun la' hl1 => ?_)
  exact kk p e s m args below meth c H locs la' C Wd S0 hz (pw_st1 (v := .int x) hl1)
theorem PW.istore {j : Nat} {x : Int32} (hn : j < Y.2.2.1) (d : decode Y.2.1 pc = .ok (.istore j, 2)) (kk : PW (l, G, Y, R, mc, ms) k n (pc + 2) (st1 ls j (.int x)) st mem Q) : PW (l, G, Y, R, mc, ms) k n pc ls (.int x :: st) mem Q := by
  intro p e s m args below meth c H locs la C Wd S0 hz hl0
  refine lv_istore C.1 C.2.1 d hl0 hn rfl (fun la' hl1 => ?_)
  exact kk p e s m args below meth c H locs la' C Wd S0 hz (pw_st1 (v := .int x) hl1)
theorem PW.lstore_n {i : Fin 4} {j : Nat} {x : Int64} (hi : (i : Nat) = j) (hn : j + 1 < Y.2.2.1) (d : decode Y.2.1 pc = .ok (.lstore_n i, 1)) (kk : PW (l, G, Y, R, mc, ms) k n (pc + 1) (st2 ls j (.long x)) st mem Q) : PW (l, G, Y, R, mc, ms) k n pc ls (.long x :: st) mem Q := by
  intro p e s m args below meth c H locs la C Wd S0 hz hl0
  refine lv_lstore_n C.1 C.2.1 d hi hl0 hn rfl (fun la' hl1 => ?_)
  exact kk p e s m args below meth c H locs la' C Wd S0 hz (pw_st2 (v := .long x) hl1)
theorem PW.lstore {j : Nat} {x : Int64} (hn : j + 1 < Y.2.2.1) (d : decode Y.2.1 pc = .ok (.lstore j, 2)) (kk : PW (l, G, Y, R, mc, ms) k n (pc + 2) (st2 ls j (.long x)) st mem Q) : PW (l, G, Y, R, mc, ms) k n pc ls (.long x :: st) mem Q := by
  intro p e s m args below meth c H locs la C Wd S0 hz hl0
  refine lv_lstore C.1 C.2.1 d hl0 hn rfl (fun la' hl1 => ?_)
  exact kk p e s m args below meth c H locs la' C Wd S0 hz (pw_st2 (v := .long x) hl1)
theorem PW.astore_n {i : Fin 4} {j : Nat} {x : Nat} (hi : (i : Nat) = j) (hn : j < Y.2.2.1) (d : decode Y.2.1 pc = .ok (.astore_n i, 1)) (kk : PW (l, G, Y, R, mc, ms) k n (pc + 1) (st1 ls j (.ref x)) st mem Q) : PW (l, G, Y, R, mc, ms) k n pc ls (.ref x :: st) mem Q := by
  intro p e s m args below meth c H locs la C Wd S0 hz hl0
  refine lv_astore_n C.1 C.2.1 d hi hl0 hn rfl (fun la' hl1 => ?_)
  exact kk p e s m args below meth c H locs la' C Wd S0 hz (pw_st1 (v := .ref x) hl1)
theorem PW.astore {j : Nat} {x : Nat} (hn : j < Y.2.2.1) (d : decode Y.2.1 pc = .ok (.astore j, 2)) (kk : PW (l, G, Y, R, mc, ms) k n (pc + 2) (st1 ls j (.ref x)) st mem Q) : PW (l, G, Y, R, mc, ms) k n pc ls (.ref x :: st) mem Q := by
  intro p e s m args below meth c H locs la C Wd S0 hz hl0
  refine lv_astore C.1 C.2.1 d hl0 hn rfl (fun la' hl1 => ?_)
  exact kk p e s m args below meth c H locs la' C Wd S0 hz (pw_st1 (v := .ref x) hl1)
theorem PW.iinc {i : Nat} {z : Int} {x v : Int32} (hl : lk ls i = some (.int x)) (hv : x + Int32.ofInt z = v) (hn : i < Y.2.2.1) (d : decode Y.2.1 pc = .ok (.iinc i z, 3)) (kk : PW (l, G, Y, R, mc, ms) k n (pc + 3) (st1 ls i (.int v)) st mem Q) : PW (l, G, Y, R, mc, ms) k n pc ls st mem Q := by
  intro p e s m args below meth c H locs la C Wd S0 hz hl0
  have hm : (i, Value.int x) ∈ pw_ls G ls ++ [(i, Value.int x)] := List.mem_append_right _ (List.mem_singleton.mpr rfl)
  have ha : lv_has la Y.2.2.1 (pw_ls G ls ++ [(i, Value.int x)]) := ⟨hl0.1, hl0.2.1, fun q hq => by
    rcases List.mem_append.mp hq with hq | hq
    · exact hl0.2.2 q hq
    · rw [List.mem_singleton.mp hq]
      exact pw_lk hl0 hl⟩
  refine lv_iinc C.1 C.2.1 d ha (k := (pw_ls G ls).length) (by simp) hv hn rfl (fun la' hl1 => ?_)
  refine kk p e s m args below meth c H locs la' C Wd S0 hz (pw_st1 (v := .int v) ⟨hl1.1, hl1.2.1, fun q hq => hl1.2.2 q ?_⟩)
  rcases List.mem_cons.mp hq with hq | hq
  · rw [hq]
    exact List.mem_cons_self
  · refine List.mem_cons_of_mem _ ?_
    rw [List.filter_append]
    exact List.mem_append_left _ hq
theorem PW.iadd {x y : Int32} (d : decode Y.2.1 pc = .ok (.iadd, 1)) (kk : PW (l, G, Y, R, mc, ms) k n (pc + 1) ls (.int (x + y) :: st) mem Q) : PW (l, G, Y, R, mc, ms) k n pc ls (.int y :: .int x :: st) mem Q := by
  intro p e s m args below meth c H locs la C Wd S0 hz hl0
  refine lv_iadd C.1 C.2.1 d ?_
  exact kk p e s m args below meth c H locs la C Wd S0 hz hl0
theorem PW.isub {x y : Int32} (d : decode Y.2.1 pc = .ok (.isub, 1)) (kk : PW (l, G, Y, R, mc, ms) k n (pc + 1) ls (.int (x - y) :: st) mem Q) : PW (l, G, Y, R, mc, ms) k n pc ls (.int y :: .int x :: st) mem Q := by
  intro p e s m args below meth c H locs la C Wd S0 hz hl0
  refine lv_isub C.1 C.2.1 d ?_
  exact kk p e s m args below meth c H locs la C Wd S0 hz hl0
theorem PW.imul {x y : Int32} (d : decode Y.2.1 pc = .ok (.imul, 1)) (kk : PW (l, G, Y, R, mc, ms) k n (pc + 1) ls (.int (x * y) :: st) mem Q) : PW (l, G, Y, R, mc, ms) k n pc ls (.int y :: .int x :: st) mem Q := by
  intro p e s m args below meth c H locs la C Wd S0 hz hl0
  refine lv_imul C.1 C.2.1 d ?_
  exact kk p e s m args below meth c H locs la C Wd S0 hz hl0
theorem PW.iand {x y : Int32} (d : decode Y.2.1 pc = .ok (.iand, 1)) (kk : PW (l, G, Y, R, mc, ms) k n (pc + 1) ls (.int (x &&& y) :: st) mem Q) : PW (l, G, Y, R, mc, ms) k n pc ls (.int y :: .int x :: st) mem Q := by
  intro p e s m args below meth c H locs la C Wd S0 hz hl0
  refine lv_iand C.1 C.2.1 d ?_
  exact kk p e s m args below meth c H locs la C Wd S0 hz hl0
theorem PW.ior {x y : Int32} (d : decode Y.2.1 pc = .ok (.ior, 1)) (kk : PW (l, G, Y, R, mc, ms) k n (pc + 1) ls (.int (x ||| y) :: st) mem Q) : PW (l, G, Y, R, mc, ms) k n pc ls (.int y :: .int x :: st) mem Q := by
  intro p e s m args below meth c H locs la C Wd S0 hz hl0
  refine lv_ior C.1 C.2.1 d ?_
  exact kk p e s m args below meth c H locs la C Wd S0 hz hl0
theorem PW.ixor {x y : Int32} (d : decode Y.2.1 pc = .ok (.ixor, 1)) (kk : PW (l, G, Y, R, mc, ms) k n (pc + 1) ls (.int (x ^^^ y) :: st) mem Q) : PW (l, G, Y, R, mc, ms) k n pc ls (.int y :: .int x :: st) mem Q := by
  intro p e s m args below meth c H locs la C Wd S0 hz hl0
  refine lv_ixor C.1 C.2.1 d ?_
  exact kk p e s m args below meth c H locs la C Wd S0 hz hl0
theorem PW.ishl {x y : Int32} (d : decode Y.2.1 pc = .ok (.ishl, 1)) (kk : PW (l, G, Y, R, mc, ms) k n (pc + 1) ls (.int (x <<< (y &&& 31)) :: st) mem Q) : PW (l, G, Y, R, mc, ms) k n pc ls (.int y :: .int x :: st) mem Q := by
  intro p e s m args below meth c H locs la C Wd S0 hz hl0
  refine lv_ishl C.1 C.2.1 d ?_
  exact kk p e s m args below meth c H locs la C Wd S0 hz hl0
theorem PW.ishr {x y : Int32} (d : decode Y.2.1 pc = .ok (.ishr, 1)) (kk : PW (l, G, Y, R, mc, ms) k n (pc + 1) ls (.int (x >>> (y &&& 31)) :: st) mem Q) : PW (l, G, Y, R, mc, ms) k n pc ls (.int y :: .int x :: st) mem Q := by
  intro p e s m args below meth c H locs la C Wd S0 hz hl0
  refine lv_ishr C.1 C.2.1 d ?_
  exact kk p e s m args below meth c H locs la C Wd S0 hz hl0
theorem PW.idiv {x y : Int32} (hne : ¬ y = 0) (d : decode Y.2.1 pc = .ok (.idiv, 1)) (kk : PW (l, G, Y, R, mc, ms) k n (pc + 1) ls (.int (x / y) :: st) mem Q) : PW (l, G, Y, R, mc, ms) k n pc ls (.int y :: .int x :: st) mem Q := by
  intro p e s m args below meth c H locs la C Wd S0 hz hl0
  refine lv_idiv C.1 C.2.1 d hne ?_
  exact kk p e s m args below meth c H locs la C Wd S0 hz hl0
theorem PW.irem {x y : Int32} (hne : ¬ y = 0) (d : decode Y.2.1 pc = .ok (.irem, 1)) (kk : PW (l, G, Y, R, mc, ms) k n (pc + 1) ls (.int (x - x / y * y) :: st) mem Q) : PW (l, G, Y, R, mc, ms) k n pc ls (.int y :: .int x :: st) mem Q := by
  intro p e s m args below meth c H locs la C Wd S0 hz hl0
  refine lv_irem C.1 C.2.1 d hne ?_
  exact kk p e s m args below meth c H locs la C Wd S0 hz hl0
theorem PW.ladd {x y : Int64} (d : decode Y.2.1 pc = .ok (.ladd, 1)) (kk : PW (l, G, Y, R, mc, ms) k n (pc + 1) ls (.long (x + y) :: st) mem Q) : PW (l, G, Y, R, mc, ms) k n pc ls (.long y :: .long x :: st) mem Q := by
  intro p e s m args below meth c H locs la C Wd S0 hz hl0
  refine lv_ladd C.1 C.2.1 d ?_
  exact kk p e s m args below meth c H locs la C Wd S0 hz hl0
theorem PW.lsub {x y : Int64} (d : decode Y.2.1 pc = .ok (.lsub, 1)) (kk : PW (l, G, Y, R, mc, ms) k n (pc + 1) ls (.long (x - y) :: st) mem Q) : PW (l, G, Y, R, mc, ms) k n pc ls (.long y :: .long x :: st) mem Q := by
  intro p e s m args below meth c H locs la C Wd S0 hz hl0
  refine lv_lsub C.1 C.2.1 d ?_
  exact kk p e s m args below meth c H locs la C Wd S0 hz hl0
theorem PW.lmul {x y : Int64} (d : decode Y.2.1 pc = .ok (.lmul, 1)) (kk : PW (l, G, Y, R, mc, ms) k n (pc + 1) ls (.long (x * y) :: st) mem Q) : PW (l, G, Y, R, mc, ms) k n pc ls (.long y :: .long x :: st) mem Q := by
  intro p e s m args below meth c H locs la C Wd S0 hz hl0
  refine lv_lmul C.1 C.2.1 d ?_
  exact kk p e s m args below meth c H locs la C Wd S0 hz hl0
theorem PW.ldiv {x y : Int64} (hne : ¬ y = 0) (d : decode Y.2.1 pc = .ok (.ldiv, 1)) (kk : PW (l, G, Y, R, mc, ms) k n (pc + 1) ls (.long (x / y) :: st) mem Q) : PW (l, G, Y, R, mc, ms) k n pc ls (.long y :: .long x :: st) mem Q := by
  intro p e s m args below meth c H locs la C Wd S0 hz hl0
  refine lv_ldiv C.1 C.2.1 d hne ?_
  exact kk p e s m args below meth c H locs la C Wd S0 hz hl0
theorem PW.lrem {x y : Int64} (hne : ¬ y = 0) (d : decode Y.2.1 pc = .ok (.lrem, 1)) (kk : PW (l, G, Y, R, mc, ms) k n (pc + 1) ls (.long (x - x / y * y) :: st) mem Q) : PW (l, G, Y, R, mc, ms) k n pc ls (.long y :: .long x :: st) mem Q := by
  intro p e s m args below meth c H locs la C Wd S0 hz hl0
  refine lv_lrem C.1 C.2.1 d hne ?_
  exact kk p e s m args below meth c H locs la C Wd S0 hz hl0
theorem PW.lcmp {x y : Int64} (d : decode Y.2.1 pc = .ok (.lcmp, 1)) (kk : PW (l, G, Y, R, mc, ms) k n (pc + 1) ls (.int (lg_cmp x y) :: st) mem Q) : PW (l, G, Y, R, mc, ms) k n pc ls (.long y :: .long x :: st) mem Q := by
  intro p e s m args below meth c H locs la C Wd S0 hz hl0
  refine W.lcmp C.1 C.2.1 d ?_
  exact kk p e s m args below meth c H locs la C Wd S0 hz hl0
theorem PW.i2l {x : Int32} (d : decode Y.2.1 pc = .ok (.i2l, 1)) (kk : PW (l, G, Y, R, mc, ms) k n (pc + 1) ls (.long x.toInt64 :: st) mem Q) : PW (l, G, Y, R, mc, ms) k n pc ls (.int x :: st) mem Q := by
  intro p e s m args below meth c H locs la C Wd S0 hz hl0
  refine lv_i2l C.1 C.2.1 d rfl ?_
  exact kk p e s m args below meth c H locs la C Wd S0 hz hl0
theorem PW.l2i {x : Int64} (d : decode Y.2.1 pc = .ok (.l2i, 1)) (kk : PW (l, G, Y, R, mc, ms) k n (pc + 1) ls (.int x.toInt32 :: st) mem Q) : PW (l, G, Y, R, mc, ms) k n pc ls (.long x :: st) mem Q := by
  intro p e s m args below meth c H locs la C Wd S0 hz hl0
  refine lv_l2i C.1 C.2.1 d rfl ?_
  exact kk p e s m args below meth c H locs la C Wd S0 hz hl0
theorem PW.dup {v : Value} (hv : v.category = 1) (d : decode Y.2.1 pc = .ok (.dup, 1)) (kk : PW (l, G, Y, R, mc, ms) k n (pc + 1) ls (v :: v :: st) mem Q) : PW (l, G, Y, R, mc, ms) k n pc ls (v :: st) mem Q := by
  intro p e s m args below meth c H locs la C Wd S0 hz hl0
  refine lv_dup C.1 C.2.1 d ((pw_cat G v).trans hv) ?_
  exact kk p e s m args below meth c H locs la C Wd S0 hz hl0
theorem PW.pop {v : Value} (hv : v.category = 1) (d : decode Y.2.1 pc = .ok (.pop, 1)) (kk : PW (l, G, Y, R, mc, ms) k n (pc + 1) ls st mem Q) : PW (l, G, Y, R, mc, ms) k n pc ls (v :: st) mem Q := by
  intro p e s m args below meth c H locs la C Wd S0 hz hl0
  refine lv_pop C.1 C.2.1 d ((pw_cat G v).trans hv) ?_
  exact kk p e s m args below meth c H locs la C Wd S0 hz hl0
theorem PW.dup2 {v u : Value} (hv : v.category = 1) (hu : u.category = 1) (d : decode Y.2.1 pc = .ok (.dup2, 1)) (kk : PW (l, G, Y, R, mc, ms) k n (pc + 1) ls (v :: u :: v :: u :: st) mem Q) : PW (l, G, Y, R, mc, ms) k n pc ls (v :: u :: st) mem Q := by
  intro p e s m args below meth c H locs la C Wd S0 hz hl0
  refine lv_dup2_11 C.1 C.2.1 d ((pw_cat G v).trans hv) ((pw_cat G u).trans hu) ?_
  exact kk p e s m args below meth c H locs la C Wd S0 hz hl0
theorem PW.goto {off : Int} (tgt : Nat) (ht : (pc : Int) + off = (tgt : Int)) (d : decode Y.2.1 pc = .ok (.goto off, 3)) (kk : PW (l, G, Y, R, mc, ms) k n tgt ls st mem Q) : PW (l, G, Y, R, mc, ms) k n pc ls st mem Q := by
  intro p e s m args below meth c H locs la C Wd S0 hz hl0
  refine lv_goto C.1 C.2.1 d ht ?_
  exact kk p e s m args below meth c H locs la C Wd S0 hz hl0
theorem PW.if_eq {x : Int32} {off : Int} (tgt : Nat) (ht : (pc : Int) + off = (tgt : Int)) (d : decode Y.2.1 pc = .ok (.ifCond .eq off, 3)) (kt : x = 0 → PW (l, G, Y, R, mc, ms) k n tgt ls st mem Q) (kf : ¬ x = 0 → PW (l, G, Y, R, mc, ms) k n (pc + 3) ls st mem Q) : PW (l, G, Y, R, mc, ms) k n pc ls (.int x :: st) mem Q := by
  intro p e s m args below meth c H locs la C Wd S0 hz hl0
  exact lv_if_eq C.1 C.2.1 d ht (fun hc => kt hc p e s m args below meth c H locs la C Wd S0 hz hl0) (fun hc => kf hc p e s m args below meth c H locs la C Wd S0 hz hl0)
theorem PW.icmp_eq {x y : Int32} {off : Int} (tgt : Nat) (ht : (pc : Int) + off = (tgt : Int)) (d : decode Y.2.1 pc = .ok (.if_icmp .eq off, 3)) (kt : x = y → PW (l, G, Y, R, mc, ms) k n tgt ls st mem Q) (kf : ¬ x = y → PW (l, G, Y, R, mc, ms) k n (pc + 3) ls st mem Q) : PW (l, G, Y, R, mc, ms) k n pc ls (.int y :: .int x :: st) mem Q := by
  intro p e s m args below meth c H locs la C Wd S0 hz hl0
  exact lv_icmp_eq C.1 C.2.1 d ht (fun hc => kt hc p e s m args below meth c H locs la C Wd S0 hz hl0) (fun hc => kf hc p e s m args below meth c H locs la C Wd S0 hz hl0)
theorem PW.if_ne {x : Int32} {off : Int} (tgt : Nat) (ht : (pc : Int) + off = (tgt : Int)) (d : decode Y.2.1 pc = .ok (.ifCond .ne off, 3)) (kt : ¬ x = 0 → PW (l, G, Y, R, mc, ms) k n tgt ls st mem Q) (kf : x = 0 → PW (l, G, Y, R, mc, ms) k n (pc + 3) ls st mem Q) : PW (l, G, Y, R, mc, ms) k n pc ls (.int x :: st) mem Q := by
  intro p e s m args below meth c H locs la C Wd S0 hz hl0
  exact lv_if_ne C.1 C.2.1 d ht (fun hc => kt hc p e s m args below meth c H locs la C Wd S0 hz hl0) (fun hc => kf hc p e s m args below meth c H locs la C Wd S0 hz hl0)
theorem PW.icmp_ne {x y : Int32} {off : Int} (tgt : Nat) (ht : (pc : Int) + off = (tgt : Int)) (d : decode Y.2.1 pc = .ok (.if_icmp .ne off, 3)) (kt : ¬ x = y → PW (l, G, Y, R, mc, ms) k n tgt ls st mem Q) (kf : x = y → PW (l, G, Y, R, mc, ms) k n (pc + 3) ls st mem Q) : PW (l, G, Y, R, mc, ms) k n pc ls (.int y :: .int x :: st) mem Q := by
  intro p e s m args below meth c H locs la C Wd S0 hz hl0
  exact lv_icmp_ne C.1 C.2.1 d ht (fun hc => kt hc p e s m args below meth c H locs la C Wd S0 hz hl0) (fun hc => kf hc p e s m args below meth c H locs la C Wd S0 hz hl0)
theorem PW.if_lt {x : Int32} {off : Int} (tgt : Nat) (ht : (pc : Int) + off = (tgt : Int)) (d : decode Y.2.1 pc = .ok (.ifCond .lt off, 3)) (kt : x < 0 → PW (l, G, Y, R, mc, ms) k n tgt ls st mem Q) (kf : ¬ x < 0 → PW (l, G, Y, R, mc, ms) k n (pc + 3) ls st mem Q) : PW (l, G, Y, R, mc, ms) k n pc ls (.int x :: st) mem Q := by
  intro p e s m args below meth c H locs la C Wd S0 hz hl0
  exact lv_if_lt C.1 C.2.1 d ht (fun hc => kt hc p e s m args below meth c H locs la C Wd S0 hz hl0) (fun hc => kf hc p e s m args below meth c H locs la C Wd S0 hz hl0)
theorem PW.icmp_lt {x y : Int32} {off : Int} (tgt : Nat) (ht : (pc : Int) + off = (tgt : Int)) (d : decode Y.2.1 pc = .ok (.if_icmp .lt off, 3)) (kt : x < y → PW (l, G, Y, R, mc, ms) k n tgt ls st mem Q) (kf : ¬ x < y → PW (l, G, Y, R, mc, ms) k n (pc + 3) ls st mem Q) : PW (l, G, Y, R, mc, ms) k n pc ls (.int y :: .int x :: st) mem Q := by
  intro p e s m args below meth c H locs la C Wd S0 hz hl0
  exact lv_icmp_lt C.1 C.2.1 d ht (fun hc => kt hc p e s m args below meth c H locs la C Wd S0 hz hl0) (fun hc => kf hc p e s m args below meth c H locs la C Wd S0 hz hl0)
theorem PW.if_ge {x : Int32} {off : Int} (tgt : Nat) (ht : (pc : Int) + off = (tgt : Int)) (d : decode Y.2.1 pc = .ok (.ifCond .ge off, 3)) (kt : 0 ≤ x → PW (l, G, Y, R, mc, ms) k n tgt ls st mem Q) (kf : ¬ 0 ≤ x → PW (l, G, Y, R, mc, ms) k n (pc + 3) ls st mem Q) : PW (l, G, Y, R, mc, ms) k n pc ls (.int x :: st) mem Q := by
  intro p e s m args below meth c H locs la C Wd S0 hz hl0
  exact lv_if_ge C.1 C.2.1 d ht (fun hc => kt hc p e s m args below meth c H locs la C Wd S0 hz hl0) (fun hc => kf hc p e s m args below meth c H locs la C Wd S0 hz hl0)
theorem PW.icmp_ge {x y : Int32} {off : Int} (tgt : Nat) (ht : (pc : Int) + off = (tgt : Int)) (d : decode Y.2.1 pc = .ok (.if_icmp .ge off, 3)) (kt : y ≤ x → PW (l, G, Y, R, mc, ms) k n tgt ls st mem Q) (kf : ¬ y ≤ x → PW (l, G, Y, R, mc, ms) k n (pc + 3) ls st mem Q) : PW (l, G, Y, R, mc, ms) k n pc ls (.int y :: .int x :: st) mem Q := by
  intro p e s m args below meth c H locs la C Wd S0 hz hl0
  exact lv_icmp_ge C.1 C.2.1 d ht (fun hc => kt hc p e s m args below meth c H locs la C Wd S0 hz hl0) (fun hc => kf hc p e s m args below meth c H locs la C Wd S0 hz hl0)
theorem PW.if_gt {x : Int32} {off : Int} (tgt : Nat) (ht : (pc : Int) + off = (tgt : Int)) (d : decode Y.2.1 pc = .ok (.ifCond .gt off, 3)) (kt : 0 < x → PW (l, G, Y, R, mc, ms) k n tgt ls st mem Q) (kf : ¬ 0 < x → PW (l, G, Y, R, mc, ms) k n (pc + 3) ls st mem Q) : PW (l, G, Y, R, mc, ms) k n pc ls (.int x :: st) mem Q := by
  intro p e s m args below meth c H locs la C Wd S0 hz hl0
  exact lv_if_gt C.1 C.2.1 d ht (fun hc => kt hc p e s m args below meth c H locs la C Wd S0 hz hl0) (fun hc => kf hc p e s m args below meth c H locs la C Wd S0 hz hl0)
theorem PW.icmp_gt {x y : Int32} {off : Int} (tgt : Nat) (ht : (pc : Int) + off = (tgt : Int)) (d : decode Y.2.1 pc = .ok (.if_icmp .gt off, 3)) (kt : y < x → PW (l, G, Y, R, mc, ms) k n tgt ls st mem Q) (kf : ¬ y < x → PW (l, G, Y, R, mc, ms) k n (pc + 3) ls st mem Q) : PW (l, G, Y, R, mc, ms) k n pc ls (.int y :: .int x :: st) mem Q := by
  intro p e s m args below meth c H locs la C Wd S0 hz hl0
  exact lv_icmp_gt C.1 C.2.1 d ht (fun hc => kt hc p e s m args below meth c H locs la C Wd S0 hz hl0) (fun hc => kf hc p e s m args below meth c H locs la C Wd S0 hz hl0)
theorem PW.if_le {x : Int32} {off : Int} (tgt : Nat) (ht : (pc : Int) + off = (tgt : Int)) (d : decode Y.2.1 pc = .ok (.ifCond .le off, 3)) (kt : x ≤ 0 → PW (l, G, Y, R, mc, ms) k n tgt ls st mem Q) (kf : ¬ x ≤ 0 → PW (l, G, Y, R, mc, ms) k n (pc + 3) ls st mem Q) : PW (l, G, Y, R, mc, ms) k n pc ls (.int x :: st) mem Q := by
  intro p e s m args below meth c H locs la C Wd S0 hz hl0
  exact lv_if_le C.1 C.2.1 d ht (fun hc => kt hc p e s m args below meth c H locs la C Wd S0 hz hl0) (fun hc => kf hc p e s m args below meth c H locs la C Wd S0 hz hl0)
theorem PW.icmp_le {x y : Int32} {off : Int} (tgt : Nat) (ht : (pc : Int) + off = (tgt : Int)) (d : decode Y.2.1 pc = .ok (.if_icmp .le off, 3)) (kt : x ≤ y → PW (l, G, Y, R, mc, ms) k n tgt ls st mem Q) (kf : ¬ x ≤ y → PW (l, G, Y, R, mc, ms) k n (pc + 3) ls st mem Q) : PW (l, G, Y, R, mc, ms) k n pc ls (.int y :: .int x :: st) mem Q := by
  intro p e s m args below meth c H locs la C Wd S0 hz hl0
  exact lv_icmp_le C.1 C.2.1 d ht (fun hc => kt hc p e s m args below meth c H locs la C Wd S0 hz hl0) (fun hc => kf hc p e s m args below meth c H locs la C Wd S0 hz hl0)
theorem PW.lookup {dflt : Int} {ps : Array (Int × Int)} {len : Nat} {x : Int32} {off : Int} (tgt : Nat) (hp : (ps.toList.zip (ps.toList.drop 1)).all (fun (a, next) => a.1 < next.1) = true) (ho : Op.lookupswitch.offset ps.toList dflt x.toInt = off) (ht : (pc : Int) + off = (tgt : Int)) (d : decode Y.2.1 pc = .ok (.lookupswitch dflt ps, len)) (kk : PW (l, G, Y, R, mc, ms) k n tgt ls st mem Q) : PW (l, G, Y, R, mc, ms) k n pc ls (.int x :: st) mem Q := by
  intro p e s m args below meth c H locs la C Wd S0 hz hl0
  refine lv_lookup C.1 C.2.1 d hp ho ht ?_
  exact kk p e s m args below meth c H locs la C Wd S0 hz hl0
theorem PW.tableOut {dflt lo hi : Int} {offs : Array Int} {len : Nat} {x : Int32} (tgt : Nat) (hx : x.toInt < lo ∨ hi < x.toInt) (ht : (pc : Int) + dflt = (tgt : Int)) (d : decode Y.2.1 pc = .ok (.tableswitch dflt lo hi offs, len)) (kk : PW (l, G, Y, R, mc, ms) k n tgt ls st mem Q) : PW (l, G, Y, R, mc, ms) k n pc ls (.int x :: st) mem Q := by
  intro p e s m args below meth c H locs la C Wd S0 hz hl0
  refine lv_tableOut C.1 C.2.1 d hx ht ?_
  exact kk p e s m args below meth c H locs la C Wd S0 hz hl0
theorem PW.tableIn {dflt lo hi : Int} {offs : Array Int} {len : Nat} {x : Int32} {off : Int} (tgt : Nat) (h1 : ¬ x.toInt < lo) (h2 : ¬ hi < x.toInt) (ho : offs[(x.toInt - lo).toNat]? = some off) (ht : (pc : Int) + off = (tgt : Int)) (d : decode Y.2.1 pc = .ok (.tableswitch dflt lo hi offs, len)) (kk : PW (l, G, Y, R, mc, ms) k n tgt ls st mem Q) : PW (l, G, Y, R, mc, ms) k n pc ls (.int x :: st) mem Q := by
  intro p e s m args below meth c H locs la C Wd S0 hz hl0
  refine lv_tableIn C.1 C.2.1 d h1 h2 ho ht ?_
  exact kk p e s m args below meth c H locs la C Wd S0 hz hl0
def pw_F (own : String) (idx ci j : Nat) : Prop := ∃ (C : String) (T : u_T) (N : Nat), vwCl[ci]? = some (C, T, N) ∧ j < N ∧ (∀ w ∈ u_ws C T N, w ∈ pw_tbl) ∧ Cond.fieldLink own idx (T j).1 (T j).2.1 (T j).2.2.1 ∈ pw_tbl
def pw_FP (own : String) (idx ci j : Nat) (ty : FieldType) (fin : Bool) : Prop := ∃ (C : String) (T : u_T) (N : Nat) (tys : Nat → FieldType), vwCl[ci]? = some (C, T, N) ∧ j < N ∧ (∀ w ∈ u_ws C T N, w ∈ pw_tbl) ∧ Cond.fieldLink own idx (T j).1 (T j).2.1 (T j).2.2.1 ∈ pw_tbl ∧ (∀ k, k < N → parseFieldDescriptor (T k).2.2.1 = some (tys k)) ∧ (∀ a, a < N → ∀ b, b < N → a ≠ b → (T a).2.1 ≠ (T b).2.1) ∧ (T j).2.2.2 = fin ∧ parseFieldDescriptor (T j).2.2.1 = some ty ∧ (T j).1 = C
theorem PW.get {idx ci j r : Nat} {fs : List Value} {v : Value} (hs : pw_F Y.1.cls idx ci j) (h9 : 9 ≤ r) (hm : mem[r]? = some (.inr (ci, fs))) (hv : fs[j]? = some v) (d : decode Y.2.1 pc = .ok (.getfield idx, 3)) (kk : PW (l, G, Y, R, mc, ms) k n (pc + 3) ls (v :: st) mem Q) : PW (l, G, Y, R, mc, ms) k n pc ls (.ref r :: st) mem Q := by
  intro p e s m args below meth c H locs la C Wd S0 hz hl0
  obtain ⟨C0, T0, N0, s1, s2, s3, s4⟩ := hs
  refine va_get (D := G.1) (ci := ci) (v := pw_v G v) (C := C0) (T := T0) (N := N0) C.1 C.2.1 C.2.2.2.2.2.2.2.1 s3 C.2.2.2.2.2.2.1 Wd.2.2.2.1 Wd.2.2.1 (r - 9) (fs := fs.map (pw_v G)) (pw_ws_get h9 hm) s1 j s2 (C.2.2.2.2.2.2.2.1 _ s4) (fun _ h => h) (by rw [List.getElem?_map, hv]; rfl) d ?_
  exact kk p e s m args below meth c H locs la C Wd S0 hz hl0
theorem pw_Ar {G : pw_G} {r : Nat} (h9 : 9 ≤ r) : pw_A G (pw_ad G r) := by
  show G.2.2.1 ≤ pw_ad G r
  simp only [pw_ad, if_neg (show ¬ r < 9 by omega)]
  omega
/-- the world behind a write to a cell -/
theorem pw_put {r : Nat} {x0 x : pw_E} {s : State} {H H1 : Heap} {G : pw_G} {mem : pw_M} (Wd : pw_Wd G mem s H) (h9 : 9 ≤ r) (hm : mem[r]? = some x0) (hz1 : H1.size = H.size) (hq : ∀ a : Nat, a ≠ pw_ad G r → H1[a]? = H[a]?) (hx : va_at G.1 vwCl (pw_ad G r, pw_e G x) H1) : pw_Wd G (mem.set r x) s H1 := by
  refine ⟨by rw [List.length_set]; exact Wd.1, by rw [List.length_set, hz1]; exact Wd.2.1, by rw [pw_ws_set h9]; exact Wd.2.2.1.set (pw_D G mem) (pw_ws_get h9 hm) hx hq, Wd.2.2.2.1, (Wd.2.2.2.2.kept (fun a _ h2 => hq a (fun z => h2 (by rw [z]; exact pw_Ar h9)))).set h9 x⟩
theorem PW.put {idx ci j r : Nat} {fs : List Value} {v : Value} {ty : FieldType} (hs : pw_FP Y.1.cls idx ci j ty false) (hty : ∀ G : pw_G, narrow ty (pw_v G v) = pw_v G v ∧ fits ty (pw_v G v) = true) (h9 : 9 ≤ r) (hm : mem[r]? = some (.inr (ci, fs))) (hl : j < fs.length) (d : decode Y.2.1 pc = .ok (.putfield idx, 3)) (kk : PW (l, G, Y, R, mc, ms) k n (pc + 3) ls st (mem.set r (.inr (ci, fs.set j v))) Q) : PW (l, G, Y, R, mc, ms) k n pc ls (v :: .ref r :: st) mem Q := by
  intro p e s m args below meth c H locs la C Wd S0 hz hl0
  obtain ⟨C0, T0, N0, ty0, s1, s2, s3, s4, s5, s6, s7, s8, -⟩ := hs
  have hts := C.2.2.2.2.2.2.2.1
  have hK := Wd.2.2.2.1
  have hat := pw_ws_get (G := G) h9 hm
  have hap := va_apart (own := Y.1.cls) hts s3 ty0 s5 s6 hK s1
  obtain ⟨r0, h1, cell, q1, q2, q3, q4⟩ := Wd.2.2.1 (r - 9) _ hat
  have hr : r0 = (C0, T0, N0) := Option.some.inj (h1.symm.trans s1)
  subst hr
  obtain ⟨hS, hfc, kC, hkC, hkind⟩ := hK.1 ci _ s1
  obtain ⟨cf, kf, fi, f, hi, hsl⟩ := hS j s2
  have hlay := hts _ (s3 _ (u_in_lay s2))
  unfold u_lay at hlay
  rw [if_neg (by rw [s7]; decide)] at hlay
  have hst := (u_facts hfc hkC (u_lays hts s3 s2) hi).1
  have h6 := u_store hfc hkC hkind hlay hi s8 (hty G).1 (hty G).2
  refine W.putK C.1 C.2.1 (f := f) ⟨C.2.2.2.2.2.2.1, hts _ s4, ⟨_, _, _, hi⟩, hst⟩ (by rw [q2]; exact h6) q1 q3 (by rw [hsl]; exact k2_hasslot (q4 j s2)) rfl rfl d fun H' e1 e2 e3 => ?_
  rw [hsl] at e1 ⊢
  refine kk p e s m args below meth c H' _ la C (pw_put Wd h9 hm e2 e3 ⟨_, s1, t_OB.to (V := updV (vp_V (fs.map (pw_v G))) j (pw_v G v)) ⟨_, e1, q2, q3, t_set q4 hap s2 (pw_v G v)⟩ (fun i _ => ?_)⟩) (S0.put e2 e3 (pw_Ar h9)) hz hl0
  rw [vp_updV_set (by rw [List.length_map]; exact hl) (pw_v G v) i, List.map_set]
theorem PW.putF {idx ci j r : Nat} {fs : List Value} {v : Value} {ty : FieldType} (hs : pw_FP Y.1.cls idx ci j ty true) (hin : Y.1.name = "<init>") (hcl : vwCl[ci]?.map (fun q => q.1) = some Y.1.cls) (hty : ∀ G : pw_G, narrow ty (pw_v G v) = pw_v G v ∧ fits ty (pw_v G v) = true) (h9 : 9 ≤ r) (hm : mem[r]? = some (.inr (ci, fs))) (hl : j < fs.length) (d : decode Y.2.1 pc = .ok (.putfield idx, 3)) (kk : PW (l, G, Y, R, mc, ms) k n (pc + 3) ls st (mem.set r (.inr (ci, fs.set j v))) Q) : PW (l, G, Y, R, mc, ms) k n pc ls (v :: .ref r :: st) mem Q := by
  intro p e s m args below meth c H locs la C Wd S0 hz hl0
  obtain ⟨C0, T0, N0, ty0, s1, s2, s3, s4, s5, s6, s7, s8, s9⟩ := hs
  rw [s1] at hcl
  have hCo : C0 = Y.1.cls := Option.some.inj hcl
  have hts := C.2.2.2.2.2.2.2.1
  have hown := C.2.2.2.2.2.2.1
  have hK := Wd.2.2.2.1
  have hat := pw_ws_get (G := G) h9 hm
  have hap := va_apart (own := Y.1.cls) hts s3 ty0 s5 s6 hK s1
  obtain ⟨r0, h1, cell, q1, q2, q3, q4⟩ := Wd.2.2.1 (r - 9) _ hat
  have hr : r0 = (C0, T0, N0) := Option.some.inj (h1.symm.trans s1)
  subst hr
  obtain ⟨hS, hfc, kC, hkC, hkind⟩ := hK.1 ci _ s1
  obtain ⟨cf, kf, fi, f, hi, hsl⟩ := hS j s2
  have hlay := hts _ (s3 _ (u_in_lay s2))
  unfold u_lay at hlay
  rw [if_pos s7] at hlay
  have hst := (u_facts hfc hkC (u_lays hts s3 s2) hi).1
  have hcf : m.cls = cf := by
    obtain ⟨_, _, c', _, _, _, -, -, hf', -, -, -, hown2, -⟩ := Cond.laysFinal_spec hlay
    have e1 : c' = cf := by have := hi.symm.trans hf'; simp at this; exact this.1.symm
    rw [s9, hCo] at hown2
    rw [← e1]; exact Option.some.inj (hown.symm.trans hown2)
  have h6 := u_fits hfc hkC hkind (Or.inr hlay) hi s8 (hty G).1 (hty G).2
  refine W.putFinK C.1 C.2.1 hown (hts _ s4) hi hst hcf (C.2.2.2.2.2.1.trans hin) (by rw [q2]; exact h6) q1 q3 (by rw [hsl]; exact k2_hasslot (q4 j s2)) rfl rfl d fun H' e1 e2 e3 => ?_
  rw [hsl] at e1 ⊢
  refine kk p e s m args below meth c H' _ la C (pw_put Wd h9 hm e2 e3 ⟨_, s1, t_OB.to (V := updV (vp_V (fs.map (pw_v G))) j (pw_v G v)) ⟨_, e1, q2, q3, t_set q4 hap s2 (pw_v G v)⟩ (fun i _ => ?_)⟩) (S0.put e2 e3 (pw_Ar h9)) hz hl0
  rw [vp_updV_set (by rw [List.length_map]; exact hl) (pw_v G v) i, List.map_set]
theorem PW.iald {r N : Nat} {f : Nat → Int32} {i : Int32} (hm : mem[r]? = some (.inl (0, N, .inl f))) (hin : vp_in i N) (d : decode Y.2.1 pc = .ok (.iaload, 1)) (kk : PW (l, G, Y, R, mc, ms) k n (pc + 1) ls (.int (f i.toNatClampNeg) :: st) mem Q) : PW (l, G, Y, R, mc, ms) k n pc ls (.int i :: .ref r :: st) mem Q := by
  intro p e s m args below meth c H locs la C Wd S0 hz hl0
  have hlt : i.toNatClampNeg < N := Nat.not_le.mp fun q => hin (Or.inr q)
  by_cases h9 : r < 9
  · have ea : pw_ad G r = G.2.2.2 r := by simp only [pw_ad, if_pos h9]
    obtain ⟨cell, t1, t2, t3, t4, t5, t6, t7⟩ := Wd.2.2.2.2.1 r N f h9 hm
    refine W.iald (v := .int (f i.toNatClampNeg)) C.1 C.2.1 (a := pw_ad G r) (by rw [ea]; exact t1) t2 t3 (fun q => hin (q.imp id (fun z => Nat.le_trans t4 z))) (t6 _ hlt) rfl rfl d ?_
    exact kk p e s m args below meth c H locs la C Wd S0 hz hl0
  · refine va_iald (D := G.1) C.1 C.2.1 Wd.2.2.2.1 Wd.2.2.1 (r - 9) 0 (pw_ws_get (Nat.not_lt.mp h9) hm) rfl hin d ?_
    exact kk p e s m args below meth c H locs la C Wd S0 hz hl0
theorem PW.zald {r N : Nat} {f : Nat → Int32} {i : Int32} (h9 : 9 ≤ r) (hm : mem[r]? = some (.inl (1, N, .inl f))) (hin : vp_in i N) (d : decode Y.2.1 pc = .ok (.baload, 1)) (kk : PW (l, G, Y, R, mc, ms) k n (pc + 1) ls (.int (f i.toNatClampNeg) :: st) mem Q) : PW (l, G, Y, R, mc, ms) k n pc ls (.int i :: .ref r :: st) mem Q := by
  intro p e s m args below meth c H locs la C Wd S0 hz hl0
  refine va_zald (D := G.1) C.1 C.2.1 Wd.2.2.2.1 Wd.2.2.1 (r - 9) 1 (pw_ws_get h9 hm) rfl hin d ?_
  exact kk p e s m args below meth c H locs la C Wd S0 hz hl0
theorem PW.lald {r N : Nat} {f : Nat → Int64} {i : Int32} (h9 : 9 ≤ r) (hm : mem[r]? = some (.inl (2, N, .inr (.inl f)))) (hin : vp_in i N) (d : decode Y.2.1 pc = .ok (.laload, 1)) (kk : PW (l, G, Y, R, mc, ms) k n (pc + 1) ls (.long (f i.toNatClampNeg) :: st) mem Q) : PW (l, G, Y, R, mc, ms) k n pc ls (.int i :: .ref r :: st) mem Q := by
  intro p e s m args below meth c H locs la C Wd S0 hz hl0
  refine va_lald (D := G.1) C.1 C.2.1 Wd.2.2.2.1 Wd.2.2.1 (r - 9) 2 (pw_ws_get h9 hm) rfl hin d ?_
  exact kk p e s m args below meth c H locs la C Wd S0 hz hl0
theorem PW.aald {r N t0 q : Nat} {ty : FieldType} {f : Nat → Option Nat} {i : Int32} (h9 : 9 ≤ r) (hm : mem[r]? = some (.inl (t0, N, .inr (.inr f)))) (ht : ∀ G : pw_G, (pw_tys G)[t0]? = some (G.2.1 t0, ty)) (hty : ty.isReference = true) (hin : vp_in i N) (hq : f i.toNatClampNeg = some q) (d : decode Y.2.1 pc = .ok (.aaload, 1)) (kk : PW (l, G, Y, R, mc, ms) k n (pc + 1) ls (.ref q :: st) mem Q) : PW (l, G, Y, R, mc, ms) k n pc ls (.int i :: .ref r :: st) mem Q := by
  intro p e s m args below meth c H locs la C Wd S0 hz hl0
  have hlt : i.toNatClampNeg < N := Nat.not_le.mp fun q => hin (Or.inr q)
  refine W.aald (v := .ref (pw_ad G q)) (ty := ty) C.1 C.2.1 (Wd.2.2.1 (r - 9) _ (pw_ws_get h9 hm)) ((Wd.2.2.2.1.2 t0 _ (ht G)).1 N (fun j => va_rf ((f j).map (pw_ad G)))) hty (fun q => by cases q) (by show ¬ (i < 0 ∨ (arrV _ _ _).slots.size ≤ _); rw [arrV_size]; exact hin) (by show (arrV _ _ _).slots[_]? = _; rw [arrV_read _ _ hlt]; show some (va_rf ((f i.toNatClampNeg).map (pw_ad G))) = _; rw [hq]; rfl) rfl rfl d ?_
  exact kk p e s m args below meth c H locs la C Wd S0 hz hl0
theorem PW.alen {r N t0 : Nat} {x : (Nat → Int32) ⊕ (Nat → Int64) ⊕ (Nat → Option Nat)} {ty : FieldType} (hm : mem[r]? = some (.inl (t0, N, x))) (h9 : 9 ≤ r) (ht : ∀ G : pw_G, (pw_tys G)[t0]? = some (G.2.1 t0, ty)) (d : decode Y.2.1 pc = .ok (.arraylength, 1)) (kk : PW (l, G, Y, R, mc, ms) k n (pc + 1) ls (.int (Int32.ofNat N) :: st) mem Q) : PW (l, G, Y, R, mc, ms) k n pc ls (.ref r :: st) mem Q := by
  intro p e s m args below meth c H locs la C Wd S0 hz hl0
  have hat := pw_ws_get (G := G) h9 hm
  rcases x with f | f | f
  · refine va_alen (D := G.1) C.1 C.2.1 Wd.2.2.2.1 Wd.2.2.1 (r - 9) t0 hat (ht G) rfl d ?_
    exact kk p e s m args below meth c H locs la C Wd S0 hz hl0
  · refine va_alen (D := G.1) C.1 C.2.1 Wd.2.2.2.1 Wd.2.2.1 (r - 9) t0 hat (ht G) rfl d ?_
    exact kk p e s m args below meth c H locs la C Wd S0 hz hl0
  · refine va_alen (D := G.1) C.1 C.2.1 Wd.2.2.2.1 Wd.2.2.1 (r - 9) t0 hat (ht G) rfl d ?_
    exact kk p e s m args below meth c H locs la C Wd S0 hz hl0
theorem PW.alen0 {r N : Nat} {f : Nat → Int32} (hm : mem[r]? = some (.inl (0, N, .inl f))) (h9 : r < 9) (d : decode Y.2.1 pc = .ok (.arraylength, 1)) (kk : PW (l, G, Y, R, mc, ms) k n (pc + 1) ls (.int (Int32.ofNat N) :: st) mem Q) : PW (l, G, Y, R, mc, ms) k n pc ls (.ref r :: st) mem Q := by
  intro p e s m args below meth c H locs la C Wd S0 hz hl0
  have ea : pw_ad G r = G.2.2.2 r := by simp only [pw_ad, if_pos h9]
  obtain ⟨cell, t1, t2, t3, t4, t5, t6, t7⟩ := Wd.2.2.2.2.1 r N f h9 hm
  refine W.alen (n := Int32.ofNat N) C.1 C.2.1 (a := pw_ad G r) (by rw [ea]; exact t1) t2 t5 rfl rfl d ?_
  exact kk p e s m args below meth c H locs la C Wd S0 hz hl0
theorem PW.iast {r N : Nat} {f : Nat → Int32} {i x : Int32} (h9 : 9 ≤ r) (hm : mem[r]? = some (.inl (0, N, .inl f))) (hin : vp_in i N) (d : decode Y.2.1 pc = .ok (.iastore, 1)) (kk : PW (l, G, Y, R, mc, ms) k n (pc + 1) ls st (mem.set r (.inl (0, N, .inl (upd f i.toNatClampNeg x)))) Q) : PW (l, G, Y, R, mc, ms) k n pc ls (.int x :: .int i :: .ref r :: st) mem Q := by
  intro p e s m args below meth c H locs la C Wd S0 hz hl0
  have hat := pw_ws_get (G := G) h9 hm
  refine W.iast C.1 C.2.1 (Wd.2.2.1 (r - 9) _ hat) ((Wd.2.2.2.1.2 0 _ rfl).1 N (fun j => .int (f j))) (fun q => by cases q) (by show ¬ (i < 0 ∨ (arrV _ _ _).slots.size ≤ _); rw [arrV_size]; exact hin) rfl rfl d fun H1 ee z oq => ?_
  refine kk p e s m args below meth c H1 _ la C (pw_put Wd h9 hm z oq ?_) (S0.put z oq (pw_Ar h9)) hz hl0
  show H1[pw_ad G r]? = some (vp_cell _ _)
  rw [ee]
  rw [vp_cell_i, vp_cell_i, arrV_store]
  congr 2
  funext q
  by_cases hq : q = i.toNatClampNeg
  · subst hq
    simp [updV, upd]
  · simp [updV, upd, hq]
theorem PW.zast {r N : Nat} {f : Nat → Int32} {i x : Int32} (h9 : 9 ≤ r) (hm : mem[r]? = some (.inl (1, N, .inl f))) (hin : vp_in i N) (d : decode Y.2.1 pc = .ok (.bastore, 1)) (kk : PW (l, G, Y, R, mc, ms) k n (pc + 1) ls st (mem.set r (.inl (1, N, .inl (upd f i.toNatClampNeg (vp_nar .boolean x))))) Q) : PW (l, G, Y, R, mc, ms) k n pc ls (.int x :: .int i :: .ref r :: st) mem Q := by
  intro p e s m args below meth c H locs la C Wd S0 hz hl0
  have hat := pw_ws_get (G := G) h9 hm
  refine W.zast C.1 C.2.1 (Wd.2.2.1 (r - 9) _ hat) ((Wd.2.2.2.1.2 1 _ rfl).1 N (fun j => .int (f j))) (fun q => by cases q) (by show ¬ (i < 0 ∨ (arrV _ _ _).slots.size ≤ _); rw [arrV_size]; exact hin) rfl rfl d fun H1 ee z oq => ?_
  refine kk p e s m args below meth c H1 _ la C (pw_put Wd h9 hm z oq ?_) (S0.put z oq (pw_Ar h9)) hz hl0
  show H1[pw_ad G r]? = some (vp_cell _ _)
  rw [ee]
  rw [vp_cell_i, vp_cell_i, arrV_store]
  congr 2
  funext q
  by_cases hq : q = i.toNatClampNeg
  · subst hq
    simp [updV, upd, vp_nar]
    try rfl
  · simp [updV, upd, hq]
theorem PW.last {r N : Nat} {f : Nat → Int64} {i : Int32} {x : Int64} (h9 : 9 ≤ r) (hm : mem[r]? = some (.inl (2, N, .inr (.inl f)))) (hin : vp_in i N) (d : decode Y.2.1 pc = .ok (.lastore, 1)) (kk : PW (l, G, Y, R, mc, ms) k n (pc + 1) ls st (mem.set r (.inl (2, N, .inr (.inl (vp_updL f i.toNatClampNeg x))))) Q) : PW (l, G, Y, R, mc, ms) k n pc ls (.long x :: .int i :: .ref r :: st) mem Q := by
  intro p e s m args below meth c H locs la C Wd S0 hz hl0
  have hat := pw_ws_get (G := G) h9 hm
  refine W.last C.1 C.2.1 (Wd.2.2.1 (r - 9) _ hat) ((Wd.2.2.2.1.2 2 _ rfl).1 N (fun j => .long (f j))) (fun q => by cases q) (by show ¬ (i < 0 ∨ (arrV _ _ _).slots.size ≤ _); rw [arrV_size]; exact hin) rfl rfl d fun H1 ee z oq => ?_
  refine kk p e s m args below meth c H1 _ la C (pw_put Wd h9 hm z oq ?_) (S0.put z oq (pw_Ar h9)) hz hl0
  show H1[pw_ad G r]? = some (vp_cell _ _)
  rw [ee]
  rw [vp_cell_l, vp_cell_l, arrV_store]
  congr 2
  funext q
  by_cases hq : q = i.toNatClampNeg
  · subst hq
    simp [updV, vp_updL]
  · simp [updV, vp_updL, hq]
theorem PW.gets {idx q : Nat} (hq : q < 8) (hs : Cond.fieldLink Y.1.cls idx "PocketLaws$Text" (pw_sn q) "[I" ∈ pw_tbl) (d : decode Y.2.1 pc = .ok (.getstatic idx, 3)) (kk : PW (l, G, Y, R, mc, ms) k n (pc + 3) ls (.ref q :: st) mem Q) : PW (l, G, Y, R, mc, ms) k n pc ls st mem Q := by
  intro p e s m args below meth c H locs la C Wd S0 hz hl0
  obtain ⟨cf, kf, fi, f, a, cell, h1, h2, h3, h4, h5, h6, h7, h8⟩ := Wd.2.2.2.2.2 q hq
  have ea : pw_ad G q = G.2.2.2 q := by simp only [pw_ad, if_pos (show q < 9 by omega)]
  refine W.gets C.1 C.2.1 C.2.2.2.2.2.2.1 (C.2.2.2.2.2.2.2.1 _ hs) h1 h2 h3 h4 h5 (fun e => by rw [e] at h6; cases h6) h7 rfl d ?_
  rw [← ea]
  exact kk p e s m args below meth c H locs la C Wd S0 hz hl0
theorem PW.ldc {idx : Nat} {v : Int32} (hs : Cond.constant Y.1.cls idx v ∈ pw_tbl) (d : decode Y.2.1 pc = .ok (.ldc idx, 2)) (kk : PW (l, G, Y, R, mc, ms) k n (pc + 2) ls (.int v :: st) mem Q) : PW (l, G, Y, R, mc, ms) k n pc ls st mem Q := by
  intro p e s m args below meth c H locs la C Wd S0 hz hl0
  refine lv_ldc C.1 C.2.1 C.2.2.2.2.2.2.1 (C.2.2.2.2.2.2.2.1 _ hs) d ?_
  exact kk p e s m args below meth c H locs la C Wd S0 hz hl0
theorem PW.ldcw {idx : Nat} {v : Int32} (hs : Cond.constant Y.1.cls idx v ∈ pw_tbl) (d : decode Y.2.1 pc = .ok (.ldc_w idx, 3)) (kk : PW (l, G, Y, R, mc, ms) k n (pc + 3) ls (.int v :: st) mem Q) : PW (l, G, Y, R, mc, ms) k n pc ls st mem Q := by
  intro p e s m args below meth c H locs la C Wd S0 hz hl0
  refine lv_ldcw C.1 C.2.1 C.2.2.2.2.2.2.1 (C.2.2.2.2.2.2.2.1 _ hs) d ?_
  exact kk p e s m args below meth c H locs la C Wd S0 hz hl0
theorem PW.ldc2 {idx : Nat} {v : Int64} (hs : Cond.constantLong Y.1.cls idx v ∈ pw_tbl) (d : decode Y.2.1 pc = .ok (.ldc2_w idx, 3)) (kk : PW (l, G, Y, R, mc, ms) k n (pc + 3) ls (.long v :: st) mem Q) : PW (l, G, Y, R, mc, ms) k n pc ls st mem Q := by
  intro p e s m args below meth c H locs la C Wd S0 hz hl0
  refine lv_ldc2 C.1 C.2.1 C.2.2.2.2.2.2.1 (C.2.2.2.2.2.2.2.1 _ hs) d ?_
  exact kk p e s m args below meth c H locs la C Wd S0 hz hl0
theorem PW.iret {x : Int32} (hr : Y.2.2.2 = some .int) (hk : k ≤ mc) (hn : n ≤ ms) (d : decode Y.2.1 pc = .ok (.ireturn, 1)) (kk : Q (some (.int x)) mem) : PW (l, G, Y, R, mc, ms) k n pc ls [.int x] mem Q := by
  intro p e s m args below meth c H locs la C Wd S0 hz hl0
  refine W.widen hk hn ?_
  exact W.iret (v := x) C.1 C.2.1 (C.2.2.2.1.trans hr) (fun t ht hW => ⟨some (.int x), mem, rfl, kk, by rw [ht]; exact Wd.moved hW.alike, S0.F ht⟩) S0.2.2 d C.2.2.2.2.1
theorem PW.zret {x : Int32} (hr : Y.2.2.2 = some .boolean) (hx : narrow .boolean (.int x) = .int x) (hk : k ≤ mc) (hn : n ≤ ms) (d : decode Y.2.1 pc = .ok (.ireturn, 1)) (kk : Q (some (.int x)) mem) : PW (l, G, Y, R, mc, ms) k n pc ls [.int x] mem Q := by
  intro p e s m args below meth c H locs la C Wd S0 hz hl0
  refine W.widen hk hn ?_
  exact W.zret (v := x) C.1 C.2.1 (C.2.2.2.1.trans hr) hx (fun t ht hW => ⟨some (.int x), mem, rfl, kk, by rw [ht]; exact Wd.moved hW.alike, S0.F ht⟩) S0.2.2 d C.2.2.2.2.1
theorem PW.lret {x : Int64} (hr : Y.2.2.2 = some .long) (hk : k ≤ mc) (hn : n ≤ ms) (d : decode Y.2.1 pc = .ok (.lreturn, 1)) (kk : Q (some (.long x)) mem) : PW (l, G, Y, R, mc, ms) k n pc ls [.long x] mem Q := by
  intro p e s m args below meth c H locs la C Wd S0 hz hl0
  refine W.widen hk hn ?_
  exact W.lret (v := x) C.1 C.2.1 (C.2.2.2.1.trans hr) (fun t ht hW => ⟨some (.long x), mem, rfl, kk, by rw [ht]; exact Wd.moved hW.alike, S0.F ht⟩) S0.2.2 d C.2.2.2.2.1
theorem PW.aret {x : Nat} {rt : FieldType} (hr : Y.2.2.2 = some rt) (hrt : (∃ n, rt = .object n) ∨ ∃ t, rt = .array t) (hk : k ≤ mc) (hn : n ≤ ms) (d : decode Y.2.1 pc = .ok (.areturn, 1)) (kk : Q (some (.ref x)) mem) : PW (l, G, Y, R, mc, ms) k n pc ls [.ref x] mem Q := by
  intro p e s m args below meth c H locs la C Wd S0 hz hl0
  refine W.widen hk hn ?_
  exact W.aret (v := .ref (pw_ad G x)) C.1 C.2.1 (C.2.2.2.1.trans hr) hrt (Or.inr ⟨_, rfl⟩) (fun t ht hW => ⟨some (.ref x), mem, rfl, kk, by rw [ht]; exact Wd.moved hW.alike, S0.F ht⟩) S0.2.2 d C.2.2.2.2.1
theorem PW.vret (hr : Y.2.2.2 = none) (hk : k ≤ mc) (hn : n ≤ ms) (d : decode Y.2.1 pc = .ok (.return_, 1)) (kk : Q none mem) : PW (l, G, Y, R, mc, ms) k n pc ls [] mem Q := by
  intro p e s m args below meth c H locs la C Wd S0 hz hl0
  refine W.widen hk hn ?_
  exact W.vret C.1 C.2.1 (C.2.2.2.1.trans hr) (fun t ht hW => ⟨none, mem, rfl, kk, by rw [ht]; exact Wd.moved hW.alike, S0.F ht⟩) S0.2.2 d C.2.2.2.2.1
end PWR
