def pw_Wo (Y : pw_Y) : List Cond := Cond.code Y.1 Y.2.1 Y.2.2.1 Y.2.2.2 :: pw_tbl
def pw_Pre (G : pw_G) (av : List Value) (mem : pw_M) : Array Value → State → Prop := va_Pc (av.map (pw_v G)) (fun U => G.2.2.1 ≤ U.heap.size ∧ pw_Wd G mem U U.heap ∧ pw_N U)
/-- the method's contract: from the arguments av and the memory mem it comes back with Q; h: how deep it calls; mc, ms: what it makes -/
def Ret (h mc ms : Nat) (Y : pw_Y) (av : List Value) (mem : pw_M) (Q : Option Value → pw_M → Prop) : Prop :=
  ∀ (l : Launch) (G : pw_G), Met l Y.1 (pw_Wo Y) (pw_rm h mc ms) (pw_Pre G av mem) (pw_Qc G Q) mc ms (pw_A G)
abbrev Rf (h : Nat) (Y : pw_Y) (av : List Value) (mem : pw_M) (v : Option Value) (mem1 : pw_M) : Prop := Ret h 0 0 Y av mem (fun u m1 => u = v ∧ m1 = mem1)
theorem pw_blind {G : pw_G} {av : List Value} {mem : pw_M} : FrameBlind (pw_Pre G av mem) := fun a U g mk q => ⟨q.1, q.2.1, q.2.2.1.moved (u := U) (U := U.calling g mk a) (Vm.Alike.refl U.vm), q.2.2.2.same rfl⟩
theorem pw_args (G : pw_G) : ∀ (av : List Value) (i : Nat), lv_args i (av.map (pw_v G)) = pw_ls G (lv_args i av)
  | [], _ => rfl
  | v :: av, i => by
    show (i, pw_v G v) :: lv_args (if (pw_v G v).category = 2 then i + 2 else i + 1) (av.map (pw_v G)) = (i, pw_v G v) :: pw_ls G (lv_args (if v.category = 2 then i + 2 else i + 1) av)
    rw [pw_cat, pw_args G av]
theorem pw_sl (G : pw_G) : ∀ (av : List Value), (lg_sl (av.map (pw_v G))).length = (lg_sl av).length
  | [] => rfl
  | v :: av => by
    have ih := pw_sl G av
    unfold lg_sl at ih ⊢
    rw [List.map_cons, List.flatMap_cons, List.flatMap_cons, List.length_append, List.length_append, ih, pw_cat]
    by_cases h : v.category = 2
    · rw [if_pos h, if_pos h]; rfl
    · rw [if_neg h, if_neg h]; rfl
theorem Ret.of {h mc ms : Nat} {Y : pw_Y} {av : List Value} {mem : pw_M} {Q : Option Value → pw_M → Prop} (hp : plainName Y.1.cls = true) (hlen : (lg_sl av).length ≤ Y.2.2.1) (body : ∀ (l : Launch) (G : pw_G), PW (l, G, Y, pw_rm h mc ms, mc, ms) 0 0 0 (lv_args 0 av) [] mem Q) : Ret h mc ms Y av mem Q := by
  intro l G
  refine Met.ofW (cc := Y.2.1) (maxL := Y.2.2.1) (ret := Y.2.2.2) hp rfl ?_
  intro p e s m args below meth c s₁ B hml hv
  obtain ⟨rfl, hz, hWd, hN⟩ := hv
  have hts := atoms_spec (ws := pw_Wo Y) B.pre
  have hown : s.vm.findClass Y.1.cls = some m.cls := findClass_of_methodNamed B.named
  have hin : meth.name = Y.1.name := (name_of_methodNamed B.named B.method).1
  have hl := lv_entry (av.map (pw_v G)) (n := Y.2.2.1) (by rw [pw_sl]; exact hlen)
  rw [pw_args] at hl
  rw [lg_entry_eq]
  exact body l G p e s m _ below meth c s.heap [] _ ⟨B.exec, B.bytes, hml, B.returns, B.notSynchronized, hin, hown, fun w hw => hts w (List.mem_cons_of_mem _ hw), hN⟩ hWd va_S.rf hz hl
theorem Ret.mono {h mc ms : Nat} {Y : pw_Y} {av : List Value} {mem : pw_M} {Q Q' : Option Value → pw_M → Prop} (hR : Ret h mc ms Y av mem Q) (hQ : ∀ v m1, Q v m1 → Q' v m1) : Ret h mc ms Y av mem Q' := by
  intro l G p e ha hc hk s m args below hf happ hP hK
  obtain ⟨t, o, h1, h2, h3, ⟨v, m1, e1, e2, e3⟩, h5⟩ := hR l G p e ha hc hk s m args below hf happ hP hK
  exact ⟨t, o, h1, h2, h3, ⟨v, m1, e1, hQ v m1 e2, e3⟩, h5⟩
def pw_ok (Y : pw_Y) (nA : Nat) : Prop := Cond.initialized Y.1.cls ∈ pw_tbl ∧ Cond.code Y.1 Y.2.1 Y.2.2.1 Y.2.2.2 ∈ pw_tbl ∧ (Y.1.cls ≠ "java/lang/invoke/MethodHandle" ∧ Y.1.cls ≠ "java/lang/invoke/VarHandle" ∧ (parseMethodDescriptor Y.1.desc).map (fun d => d.parameters.length) = some nA) ∧ Y.2.2.1 ≤ 60
def pw_CV (own : String) (idx : Nat) (Y : pw_Y) (nA : Nat) : Prop := pw_ok Y nA ∧ Cond.methodLink own idx Y.1 ∈ pw_tbl ∧ Cond.instanceMethod Y.1 ∈ pw_tbl ∧ Cond.selects Y.1.cls Y.1 Y.1 ∈ pw_tbl
def pw_CS (own : String) (idx : Nat) (Y : pw_Y) (nA : Nat) : Prop := pw_ok Y nA ∧ Cond.methodLink own idx Y.1 ∈ pw_tbl ∧ Cond.static Y.1 ∈ pw_tbl
def pw_CI (own : String) (idx : Nat) (Y : pw_Y) (nA : Nat) : Prop := pw_ok Y nA ∧ Cond.methodLink own idx Y.1 ∈ pw_tbl ∧ Cond.instanceMethod Y.1 ∈ pw_tbl ∧ Y.1.name = "<init>" ∧ Y.2.2.2 = none
def pw_CSN (own : String) (idx : Nat) (Y : pw_Y) (nA : Nat) (host : String) : Prop := pw_ok Y nA ∧ Cond.methodLinkNest own idx Y.1 host ∈ lw_tbl ∧ Cond.static Y.1 ∈ pw_tbl
def pw_CIN (own : String) (idx : Nat) (Y : pw_Y) (nA : Nat) (host : String) : Prop := pw_ok Y nA ∧ Cond.methodLinkNest own idx Y.1 host ∈ lw_tbl ∧ Cond.instanceMethod Y.1 ∈ pw_tbl ∧ Y.1.name = "<init>" ∧ Y.2.2.2 = none
theorem pw_goodY {Y : pw_Y} (hc : Cond.code Y.1 Y.2.1 Y.2.2.1 Y.2.2.2 ∈ pw_tbl) : GoodIn pw_tbl (pw_Wo Y) := fun w h => (List.mem_cons.mp h).elim (fun e => by rw [e]; exact pw_good _ hc) (fun h => pw_good w h)
section PWC
variable {l : Launch} {G : pw_G} {Y : pw_Y} {R : Room} {mc ms k n pc : Nat} {ls : List (Nat × Value)} {st : List Value} {mem : pw_M} {Q : Option Value → pw_M → Prop}
/-- behind any call -/
theorem PW.called {Y' : pw_Y} {mc' ms' : Nat} {st0 : List Value} {Q' : Option Value → pw_M → Prop} {p : Program} {e : Env} {s : State} {m : MethodId} {args : Array Value} {below : List Frame} {meth : Method} {c : Code} {H : Heap} {locs : List Loc} {la : Array Slot} {a : Array Value} (C : pw_Cx p s m args meth c Y) (S0 : va_S (pw_A G) s.heap H locs) (hz : G.2.2.1 ≤ s.heap.size) (hl0 : lv_has la Y.2.2.1 (pw_ls G ls))
    (hr : va_Run p l e R s m args below meth c H locs k n mc' ms' (F0 m pc la st0) (st.map (pw_v G)) (pw_Qc G Q' a) (pw_A G))
    (kk : ∀ v mem1, Q' v mem1 → PW (l, G, Y, R, mc, ms) (k + mc') (n + ms') (pc + 3) ls (v.toList ++ st) mem1 Q) :
    W p l e R s m args below meth c H locs k n (MQ below (pw_Qc G Q) args s mc ms (pw_A G)) (F0 m pc la st0) := by
  intro T hT X0
  obtain ⟨v, st₀, t, T', L, h0, X', hL, e1, e2, ⟨v', mem', hv, hq, hwd, hF⟩, stp⟩ := hr T hT X0
  cases hv
  obtain ⟨hz1, hk1⟩ := hF
  rw [h0] at hz1 hk1
  have hal : s.vm.Alike t.vm := by rw [← e2]; exact X'.warmed.alike
  obtain ⟨t2, a1, b1⟩ := kk v' mem' hq p e s m args below meth c T'.heap (locs ++ L) la C (by rw [e1]; exact hwd.moved hal.symm)
    ⟨Nat.le_trans S0.1 (by rw [e1]; exact hz1), fun q h1 h2 => by rw [e1, hk1 q (Nat.lt_of_lt_of_le h1 S0.1) h2]; exact S0.2.1 q h1 h2, fun q hq => by
      rcases List.mem_append.mp hq with h | h
      · exact S0.2.2 q h
      · exact hL q h⟩ hz hl0 T' rfl X'
  refine ⟨t2, stp t2 ?_, b1⟩
  have es : (v'.toList ++ st).map (pw_v G) = (v'.map (pw_v G)).toList ++ st.map (pw_v G) := by cases v' <;> rfl
  rw [es] at a1
  exact a1
theorem pw_room {h mc' ms' mL : Nat} (hh : h + 1 ≤ R.frames ∧ 100 * h + 100 ≤ R.locals) (hm : mL ≤ 60) : (pw_rm h mc' ms').frames + 1 ≤ R.frames ∧ 8 + (mL + 11) + (pw_rm h mc' ms').locals ≤ R.locals := ⟨hh.1, by have := hh.2; show 8 + (mL + 11) + 100 * h ≤ R.locals; omega⟩
theorem pw_st {g : JFrame} (hg : g.monitorRoom = 0) (hr : (st.map fun v => v.category).sum ≤ 8) : 2 * g.monitorRoom + ((st.map (pw_v G)).map fun v => v.category).sum ≤ 8 := by
  rw [hg, List.map_map]
  have e : (fun v : Value => v.category) ∘ pw_v G = fun v => v.category := funext fun v => pw_cat G v
  rw [e]
  omega
theorem pw_preV {p : Program} {s : State} {m : MethodId} {args : Array Value} {meth : Method} {c : Code} {H : Heap} {locs : List Loc} {av : List Value} (C : pw_Cx p s m args meth c Y) (Wd : pw_Wd G mem s H) (S0 : va_S (pw_A G) s.heap H locs) (hz : G.2.2.1 ≤ s.heap.size) : ∀ U : State, U.heap = H → s.WarmedH U.vm → pw_Pre G av mem (av.map (pw_v G)).toArray U :=
  fun U hU hW => ⟨rfl, by rw [hU]; exact Nat.le_trans hz S0.1, by rw [hU]; exact Wd.moved hW.alike, C.2.2.2.2.2.2.2.2.warm hW⟩
theorem PW.callV {Y' : pw_Y} {h' mc' ms' idx nA b ci : Nat} {fs : List Value} {st0 : List Value} {Q' : Option Value → pw_M → Prop} (av : List Value) (hs : pw_CV Y.1.cls idx Y' nA) (hM : Ret h' mc' ms' Y' (.ref b :: av) mem Q') (hst : st0 = av.reverse ++ .ref b :: st) (hn : av.length = nA) (hr : (st.map fun v => v.category).sum ≤ 8) (h9 : 9 ≤ b) (hobj : mem[b]? = some (.inr (ci, fs))) (hC : vwCl[ci]?.map (fun q => q.1) = some Y'.1.cls)
    (hh : h' + 1 ≤ R.frames ∧ 100 * h' + 100 ≤ R.locals) (hc : k + mc' ≤ R.cells ∧ n + ms' ≤ R.slots) (d : decode Y.2.1 pc = .ok (.invokevirtual idx, 3)) (kk : ∀ v mem1, Q' v mem1 → PW (l, G, Y, R, mc, ms) (k + mc') (n + ms') (pc + 3) ls (v.toList ++ st) mem1 Q) : PW (l, G, Y, R, mc, ms) k n pc ls st0 mem Q := by
  intro p e s m args below meth c H locs la C Wd S0 hz hl0
  obtain ⟨⟨o1, o2, o3, o4⟩, o5, o6, o7⟩ := hs
  have hts := C.2.2.2.2.2.2.2.1
  obtain ⟨q, hq, hqc⟩ := Option.map_eq_some_iff.mp hC
  refine PW.called (Y' := Y') (mc' := mc') (ms' := ms') C S0 hz hl0 (va_runV (C := Y'.1.cls) (As := av.map (pw_v G)) (b := pw_ad G b) (Ts := pw_tbl) ⟨C.1, C.2.1, C.2.2.1, C.2.2.2.2.2.2.1, hts⟩ (hM l G)
    ⟨callB_of nA hts (pw_goodY o2) rfl rfl rfl (hts _ o1) (hts _ o5) o3 (pw_room hh o4), hts _ o6, hts _ o7⟩
    ⟨pw_blind, ?_, pw_preV C Wd S0 hz⟩ rfl (by rw [List.length_map]; exact hn) hl0.1 ?_ (pw_st rfl hr) d hc) kk
  · rw [← hqc]
    exact va_recv Wd.2.2.2.1 Wd.2.2.1 hq (pw_ws_get h9 hobj)
  · show st0.map (pw_v G) = _
    rw [hst, List.map_append, List.map_reverse]
    rfl
theorem PW.callS {Y' : pw_Y} {h' mc' ms' idx nA : Nat} {st0 : List Value} {Q' : Option Value → pw_M → Prop} (av : List Value) (hs : pw_CS Y.1.cls idx Y' nA) (hM : Ret h' mc' ms' Y' av mem Q') (hst : st0 = av.reverse ++ st) (hn : av.length = nA) (hr : (st.map fun v => v.category).sum ≤ 8)
    (hh : h' + 1 ≤ R.frames ∧ 100 * h' + 100 ≤ R.locals) (hc : k + mc' ≤ R.cells ∧ n + ms' ≤ R.slots) (d : decode Y.2.1 pc = .ok (.invokestatic idx, 3)) (kk : ∀ v mem1, Q' v mem1 → PW (l, G, Y, R, mc, ms) (k + mc') (n + ms') (pc + 3) ls (v.toList ++ st) mem1 Q) : PW (l, G, Y, R, mc, ms) k n pc ls st0 mem Q := by
  intro p e s m args below meth c H locs la C Wd S0 hz hl0
  obtain ⟨⟨o1, o2, o3, o4⟩, o5, o6⟩ := hs
  have hts := C.2.2.2.2.2.2.2.1
  refine PW.called (Y' := Y') (mc' := mc') (ms' := ms') C S0 hz hl0 (va_runS (As := av.map (pw_v G)) (Ts := pw_tbl) ⟨C.1, C.2.1, C.2.2.1, C.2.2.2.2.2.2.1, hts⟩ (hM l G)
    ⟨callB_of nA hts (pw_goodY o2) rfl rfl rfl (hts _ o1) (hts _ o5) o3 (pw_room hh o4), hts _ o6⟩
    ⟨pw_blind, pw_preV C Wd S0 hz⟩ rfl (by rw [List.length_map]; exact hn) hl0.1 ?_ (pw_st rfl hr) d hc) kk
  show st0.map (pw_v G) = _
  rw [hst, List.map_append, List.map_reverse]
theorem PW.callSN {Y' : pw_Y} {h' mc' ms' idx nA : Nat} {host : String} {st0 : List Value} {Q' : Option Value → pw_M → Prop} (av : List Value) (hs : pw_CSN Y.1.cls idx Y' nA host) (hM : Ret h' mc' ms' Y' av mem Q') (hst : st0 = av.reverse ++ st) (hn : av.length = nA) (hr : (st.map fun v => v.category).sum ≤ 8)
    (hh : h' + 1 ≤ R.frames ∧ 100 * h' + 100 ≤ R.locals) (hc : k + mc' ≤ R.cells ∧ n + ms' ≤ R.slots) (d : decode Y.2.1 pc = .ok (.invokestatic idx, 3)) (kk : ∀ v mem1, Q' v mem1 → PW (l, G, Y, R, mc, ms) (k + mc') (n + ms') (pc + 3) ls (v.toList ++ st) mem1 Q) : PW (l, G, Y, R, mc, ms) k n pc ls st0 mem Q := by
  intro p e s m args below meth c H locs la C Wd S0 hz hl0
  obtain ⟨⟨o1, o2, o3, o4⟩, o5, o6⟩ := hs
  have hts := C.2.2.2.2.2.2.2.1
  refine PW.called (Y' := Y') (mc' := mc') (ms' := ms') C S0 hz hl0 (va_runSN (As := av.map (pw_v G)) (Ts := pw_tbl) ⟨C.1, C.2.1, C.2.2.1, C.2.2.2.2.2.2.1, hts⟩ (hM l G)
    ⟨va_cnB nA hts (pw_goodY o2) rfl rfl rfl (C.2.2.2.2.2.2.2.2.1 _ _ _ _ o5) (hts _ o1) o3 (pw_room hh o4), hts _ o6, trivial⟩
    ⟨pw_blind, pw_preV C Wd S0 hz⟩ rfl (by rw [List.length_map]; exact hn) hl0.1 ?_ (pw_st rfl hr) d hc) kk
  show st0.map (pw_v G) = _
  rw [hst, List.map_append, List.map_reverse]
theorem PW.callI {Y' : pw_Y} {h' mc' ms' idx nA b : Nat} {st0 : List Value} {Q' : Option Value → pw_M → Prop} (av : List Value) (hs : pw_CI Y.1.cls idx Y' nA) (hM : Ret h' mc' ms' Y' (.ref b :: av) mem Q') (hst : st0 = av.reverse ++ .ref b :: st) (hn : av.length = nA) (hr : (st.map fun v => v.category).sum ≤ 8)
    (hh : h' + 1 ≤ R.frames ∧ 100 * h' + 100 ≤ R.locals) (hc : k + mc' ≤ R.cells ∧ n + ms' ≤ R.slots) (d : decode Y.2.1 pc = .ok (.invokespecial idx, 3)) (kk : ∀ v mem1, Q' v mem1 → PW (l, G, Y, R, mc, ms) (k + mc') (n + ms') (pc + 3) ls (v.toList ++ st) mem1 Q) : PW (l, G, Y, R, mc, ms) k n pc ls st0 mem Q := by
  intro p e s m args below meth c H locs la C Wd S0 hz hl0
  obtain ⟨⟨o1, o2, o3, o4⟩, o5, o6, o7, o8⟩ := hs
  have hts := C.2.2.2.2.2.2.2.1
  refine PW.called (Y' := Y') (mc' := mc') (ms' := ms') C S0 hz hl0 (va_runI (As := av.map (pw_v G)) (b := pw_ad G b) (Ts := pw_tbl) ⟨C.1, C.2.1, C.2.2.1, C.2.2.2.2.2.2.1, hts⟩ (hM l G)
    ⟨o8 ▸ callB_of nA hts (pw_goodY o2) rfl rfl rfl (hts _ o1) (hts _ o5) o3 (pw_room hh o4), o7, hts _ o6⟩
    ⟨pw_blind, pw_preV C Wd S0 hz⟩ rfl (by rw [List.length_map]; exact hn) hl0.1 ?_ (pw_st rfl hr) d hc) kk
  show st0.map (pw_v G) = _
  rw [hst, List.map_append, List.map_reverse]
  rfl
theorem PW.callIN {Y' : pw_Y} {h' mc' ms' idx nA b : Nat} {host : String} {st0 : List Value} {Q' : Option Value → pw_M → Prop} (av : List Value) (hs : pw_CIN Y.1.cls idx Y' nA host) (hM : Ret h' mc' ms' Y' (.ref b :: av) mem Q') (hst : st0 = av.reverse ++ .ref b :: st) (hn : av.length = nA) (hr : (st.map fun v => v.category).sum ≤ 8)
    (hh : h' + 1 ≤ R.frames ∧ 100 * h' + 100 ≤ R.locals) (hc : k + mc' ≤ R.cells ∧ n + ms' ≤ R.slots) (d : decode Y.2.1 pc = .ok (.invokespecial idx, 3)) (kk : ∀ v mem1, Q' v mem1 → PW (l, G, Y, R, mc, ms) (k + mc') (n + ms') (pc + 3) ls (v.toList ++ st) mem1 Q) : PW (l, G, Y, R, mc, ms) k n pc ls st0 mem Q := by
  intro p e s m args below meth c H locs la C Wd S0 hz hl0
  obtain ⟨⟨o1, o2, o3, o4⟩, o5, o6, o7, o8⟩ := hs
  have hts := C.2.2.2.2.2.2.2.1
  refine PW.called (Y' := Y') (mc' := mc') (ms' := ms') C S0 hz hl0 (va_runIN (As := av.map (pw_v G)) (b := pw_ad G b) (Ts := pw_tbl) ⟨C.1, C.2.1, C.2.2.1, C.2.2.2.2.2.2.1, hts⟩ (hM l G)
    ⟨o8 ▸ va_cnB nA hts (pw_goodY o2) rfl rfl rfl (C.2.2.2.2.2.2.2.2.1 _ _ _ _ o5) (hts _ o1) o3 (pw_room hh o4), o7, hts _ o6⟩
    ⟨pw_blind, pw_preV C Wd S0 hz⟩ rfl (by rw [List.length_map]; exact hn) hl0.1 ?_ (pw_st rfl hr) d hc) kk
  show st0.map (pw_v G) = _
  rw [hst, List.map_append, List.map_reverse]
  rfl
theorem PW.objInit {idx b : Nat} (h1 : Cond.methodLink Y.1.cls idx Lib.objectInit ∈ pw_tbl) (h2 : Cond.instanceMethod Lib.objectInit ∈ pw_tbl) (h3 : Cond.code Lib.objectInit ⟨#[0xb1]⟩ 1 none ∈ pw_tbl) (hr : (st.map fun v => v.category).sum ≤ 8) (hf : 1 ≤ R.frames ∧ 20 ≤ R.locals) (d : decode Y.2.1 pc = .ok (.invokespecial idx, 3)) (kk : PW (l, G, Y, R, mc, ms) k n (pc + 3) ls st mem Q) : PW (l, G, Y, R, mc, ms) k n pc ls (.ref b :: st) mem Q := by
  intro p e s m args below meth c H locs la C Wd S0 hz hl0
  have hts := C.2.2.2.2.2.2.2.1
  refine W.objInit C.1 C.2.1 C.2.2.2.2.2.2.1 (hts _ h1) (hts _ h2) (hts _ h3) rfl (hl0.1.trans C.2.2.1.symm) rfl d hf.1 (Nat.le_trans (Nat.add_le_add_right (pw_st (G := G) (g := F0 m pc la ((.ref b :: st).map (pw_v G))) rfl hr) 12) hf.2) ?_
  exact kk p e s m args below meth c H locs la C Wd S0 hz hl0
/-- the world behind a making -/
theorem pw_push {x : pw_E} {s : State} {H H1 : Heap} {G : pw_G} {mem : pw_M} (Wd : pw_Wd G mem s H) (hz1 : H1.size = H.size + 1) (hq : ∀ a : Nat, a < H.size → H1[a]? = H[a]?) (hx : va_at G.1 vwCl (pw_ad G mem.length, pw_e G x) H1) : pw_Wd G (mem ++ [x]) s H1 := by
  refine ⟨by rw [List.length_append]; exact Nat.le_trans Wd.1 (Nat.le_add_right _ _), by rw [List.length_append, hz1, Wd.2.1]; have := Wd.1; show _ = _ + (mem.length + 1 - 9); omega, ?_, Wd.2.2.2.1, (Wd.2.2.2.2.kept (fun a h1 _ => hq a h1)).app Wd.1 _⟩
  rw [pw_ws_app Wd.1]
  refine (Wd.2.2.1.kept (fun k q hk => hq q.1 ((Wd.2.2.1 k q hk).lt))).app (fun k q hk => ?_)
  have h0 : k < 1 := (List.getElem?_eq_some_iff.mp hk).1
  rw [show k = 0 by omega] at hk
  cases hk
  exact hx
theorem pw_next {s : State} {H : Heap} (Wd : pw_Wd G mem s H) : pw_ad G mem.length = H.size := by
  rw [Wd.2.1]
  simp only [pw_ad, if_neg (show ¬ mem.length < 9 by have := Wd.1; omega)]
theorem pw_S {s : State} {H H1 : Heap} {locs : List Loc} (S0 : va_S (pw_A G) s.heap H locs) (hz1 : H.size ≤ H1.size) (hq : ∀ a : Nat, a < H.size → H1[a]? = H[a]?) : va_S (pw_A G) s.heap H1 locs :=
  ⟨Nat.le_trans S0.1 hz1, fun q h1 h2 => (hq q (Nat.lt_of_lt_of_le h1 S0.1)).trans (S0.2.1 q h1 h2), S0.2.2⟩
def pw_NW (own : String) (idx ci N : Nat) (fs : List Value) : Prop := ∃ (C : String) (T : u_T) (tys : Nat → FieldType), vwCl[ci]? = some (C, T, N) ∧ (∀ w ∈ u_ws C T N, w ∈ pw_tbl) ∧ (∀ k, k < N → parseFieldDescriptor (T k).2.2.1 = some (tys k)) ∧ Cond.classLink own idx C ∈ pw_tbl ∧ Cond.instantiable C N ∈ pw_tbl ∧ Cond.initialized C ∈ pw_tbl ∧ (∀ j, j < N → defaultValue (tys j) = vp_V fs j) ∧ ∀ G : pw_G, fs.map (pw_v G) = fs
theorem PW.new {idx ci N : Nat} {fs : List Value} (hs : pw_NW Y.1.cls idx ci N fs) (hc : k + 1 ≤ R.cells ∧ n + N ≤ R.slots) (d : decode Y.2.1 pc = .ok (.new idx, 3)) (kk : PW (l, G, Y, R, mc, ms) (k + 1) (n + N) (pc + 3) ls (.ref mem.length :: st) (mem ++ [.inr (ci, fs)]) Q) : PW (l, G, Y, R, mc, ms) k n pc ls st mem Q := by
  intro p e s m args below meth c H locs la C Wd S0 hz hl0
  obtain ⟨C0, T0, ty, s1, s2, s3, s4, s5, s6, s7, s8⟩ := hs
  have hts := C.2.2.2.2.2.2.2.1
  have hKn := Wd.2.2.2.1.1 ci _ s1
  refine W.newcK C.1 C.2.1 C.2.2.2.2.2.2.1 (hts _ s4) (hts _ s5) (hts _ s6) rfl d hc.1 hc.2 hKn.2.1 rfl fun H1 kC hkC e1 z1 o1 => ?_
  rw [← pw_next Wd]
  refine kk p e s m args below meth c H1 locs la C (pw_push Wd z1 o1 ?_) (pw_S S0 (by omega) o1) hz hl0
  rw [pw_next Wd]
  refine ⟨_, s1, (u_born ty hts s2 hKn hkC e1 s3).to (fun j hj => ?_)⟩
  rw [s8 G]
  exact s7 j hj
theorem PW.newI {N : Nat} {z : Int32} (hw : Cond.arrayClass .int ∈ pw_tbl) (hz0 : ¬ z < 0) (hN : z.toNatClampNeg = N) (hb : N ≤ 1000) (hc : k + 1 ≤ R.cells ∧ n + N ≤ R.slots) (d : decode Y.2.1 pc = .ok (.newarray .int, 2)) (kk : PW (l, G, Y, R, mc, ms) (k + 1) (n + N) (pc + 2) ls (.ref mem.length :: st) (mem ++ [.inl (0, N, .inl (fun _ => 0))]) Q) : PW (l, G, Y, R, mc, ms) k n pc ls (.int z :: st) mem Q := by
  intro p e s m args below meth c H locs la C Wd S0 hz hl0
  refine va_newaK (atype := .int) C.1 C.2.1 (C.2.2.2.2.2.2.2.1 _ hw) rfl d rfl hz0 hN (by show N * 4 ≤ 536870912; omega) hc.1 hc.2 rfl fun H1 cA e1 z1 o1 hAr hNm => ?_
  have hcA : cA = G.2.1 0 := Option.some.inj (hNm.symm.trans (Wd.2.2.2.1.2 0 _ rfl).2)
  subst hcA
  rw [← pw_next Wd]
  refine kk p e s m args below meth c H1 locs la C (pw_push Wd z1 o1 ?_) (pw_S S0 (by omega) o1) hz hl0
  rw [pw_next Wd]
  exact e1
theorem PW.newZ {N : Nat} {z : Int32} (hw : Cond.arrayClass .boolean ∈ pw_tbl) (hz0 : ¬ z < 0) (hN : z.toNatClampNeg = N) (hb : N ≤ 1000) (hc : k + 1 ≤ R.cells ∧ n + N ≤ R.slots) (d : decode Y.2.1 pc = .ok (.newarray .boolean, 2)) (kk : PW (l, G, Y, R, mc, ms) (k + 1) (n + N) (pc + 2) ls (.ref mem.length :: st) (mem ++ [.inl (1, N, .inl (fun _ => 0))]) Q) : PW (l, G, Y, R, mc, ms) k n pc ls (.int z :: st) mem Q := by
  intro p e s m args below meth c H locs la C Wd S0 hz hl0
  refine va_newaK (atype := .boolean) C.1 C.2.1 (C.2.2.2.2.2.2.2.1 _ hw) rfl d rfl hz0 hN (by show N * 1 ≤ 536870912; omega) hc.1 hc.2 rfl fun H1 cA e1 z1 o1 hAr hNm => ?_
  have hcA : cA = G.2.1 1 := Option.some.inj (hNm.symm.trans (Wd.2.2.2.1.2 1 _ rfl).2)
  subst hcA
  rw [← pw_next Wd]
  refine kk p e s m args below meth c H1 locs la C (pw_push Wd z1 o1 ?_) (pw_S S0 (by omega) o1) hz hl0
  rw [pw_next Wd]
  exact e1
theorem PW.newJ {N : Nat} {z : Int32} (hw : Cond.arrayClass .long ∈ pw_tbl) (hz0 : ¬ z < 0) (hN : z.toNatClampNeg = N) (hb : N ≤ 1000) (hc : k + 1 ≤ R.cells ∧ n + N ≤ R.slots) (d : decode Y.2.1 pc = .ok (.newarray .long, 2)) (kk : PW (l, G, Y, R, mc, ms) (k + 1) (n + N) (pc + 2) ls (.ref mem.length :: st) (mem ++ [.inl (2, N, .inr (.inl (fun _ => 0)))]) Q) : PW (l, G, Y, R, mc, ms) k n pc ls (.int z :: st) mem Q := by
  intro p e s m args below meth c H locs la C Wd S0 hz hl0
  refine va_newaK (atype := .long) C.1 C.2.1 (C.2.2.2.2.2.2.2.1 _ hw) rfl d rfl hz0 hN (by show N * 8 ≤ 536870912; omega) hc.1 hc.2 rfl fun H1 cA e1 z1 o1 hAr hNm => ?_
  have hcA : cA = G.2.1 2 := Option.some.inj (hNm.symm.trans (Wd.2.2.2.1.2 2 _ rfl).2)
  subst hcA
  rw [← pw_next Wd]
  refine kk p e s m args below meth c H1 locs la C (pw_push Wd z1 o1 ?_) (pw_S S0 (by omega) o1) hz hl0
  rw [pw_next Wd]
  exact e1
theorem PW.newQ {N idx : Nat} {z : Int32} (hw : Cond.classLink Y.1.cls idx "PocketLaws$Now" ∈ pw_tbl) (hz0 : ¬ z < 0) (hN : z.toNatClampNeg = N) (hb : N ≤ 1000) (hc : k + 1 ≤ R.cells ∧ n + N ≤ R.slots) (d : decode Y.2.1 pc = .ok (.anewarray idx, 3)) (kk : PW (l, G, Y, R, mc, ms) (k + 1) (n + N) (pc + 3) ls (.ref mem.length :: st) (mem ++ [.inl (3, N, .inr (.inr (fun _ => none)))]) Q) : PW (l, G, Y, R, mc, ms) k n pc ls (.int z :: st) mem Q := by
  intro p e s m args below meth c H locs la C Wd S0 hz hl0
  subst hN
  refine W.anew C.1 C.2.1 C.2.2.2.2.2.2.1 (C.2.2.2.2.2.2.2.1 _ hw) (va_AO.use C.2.2.2.2.2.2.2.2.2.1) rfl d rfl hz0 (by omega) hc.1 hc.2 fun cA kA comp f1 f2 f3 f4 => ?_
  obtain ⟨kA', comp', g1, g2, g3, g4⟩ := (Wd.2.2.2.1.2 3 _ rfl).2
  have hcA : cA = G.2.1 3 := Option.some.inj (f1.symm.trans g4)
  subst hcA
  rw [← pw_next Wd]
  have o1 : ∀ q : Nat, q < H.size → (H.push ({ cls := G.2.1 3, slots := Array.replicate z.toNatClampNeg .null, vm := .none } : Cell))[q]? = H[q]? := fun q hq => by rw [Array.getElem?_push, if_neg (Nat.ne_of_lt hq)]
  refine kk p e s m args below meth c _ locs la C (pw_push Wd (by rw [Array.size_push]) o1 ?_) (pw_S S0 (by rw [Array.size_push]; omega) o1) hz hl0
  rw [pw_next Wd]
  show (H.push _)[H.size]? = some (vp_cell _ _)
  rw [Array.getElem?_push_size, arrV_new, vp_cell_q]
  rfl
theorem PW.aast {r N q ci : Nat} {f : Nat → Option Nat} {i : Int32} {vs : List Value} (h9 : 9 ≤ r) (hm : mem[r]? = some (.inl (3, N, .inr (.inr f)))) (hq9 : 9 ≤ q) (hq : mem[q]? = some (.inr (0, vs))) (hin : vp_in i N) (d : decode Y.2.1 pc = .ok (.aastore, 1)) (kk : PW (l, G, Y, R, mc, ms) k n (pc + 1) ls st (mem.set r (.inl (3, N, .inr (.inr (va_up f i.toNatClampNeg (some q)))))) Q) : PW (l, G, Y, R, mc, ms) k n pc ls (.ref q :: .int i :: .ref r :: st) mem Q := by
  intro p e s m args below meth c H locs la C Wd S0 hz hl0
  have hlt : i.toNatClampNeg < N := Nat.not_le.mp fun q => hin (Or.inr q)
  have h0 : ¬ i < 0 := fun q => hin (Or.inl q)
  have ha := pw_ws_get (G := G) h9 hm
  have hv := pw_ws_get (G := G) hq9 hq
  obtain ⟨r', hr', cellV, g1, g2, g3, -⟩ := Wd.2.2.1 (q - 9) _ hv
  have hcls := (Wd.2.2.2.1.1 0 _ rfl).2
  obtain ⟨kA, comp, k1, k2, k3, -⟩ := (Wd.2.2.2.1.2 3 _ rfl).2
  have hcomp : comp = G.1.1 0 := Option.some.inj (k3.symm.trans hcls.1)
  subst hcomp
  obtain ⟨kC, hkC, -⟩ := hcls.2
  refine W.aast C.1 C.2.1 (Wd.2.2.1 (r - 9) _ ha) (fun q h => by cases h) (fun h => by cases h) k1 k2 rfl hkC ⟨h0, by show _ < (arrV _ _ _).slots.size; rw [arrV_size]; exact hlt⟩ g1 (fun q h => by rw [g3] at h; cases h) (by rw [g2]; exact hkC) (by rw [g2]; exact va_assign hcls) rfl rfl d fun H1 ee z oq => ?_
  refine kk p e s m args below meth c H1 _ la C (pw_put Wd h9 hm z oq ?_) (S0.put z oq (pw_Ar h9)) hz hl0
  show H1[pw_ad G r]? = some (vp_cell _ _)
  rw [ee]
  rw [vp_cell_q, vp_cell_q, arrV_store]
  congr 2
  funext x
  by_cases hx : x = i.toNatClampNeg
  · subst hx
    simp [updV, va_up, va_rf]
  · simp [updV, va_up, hx]
end PWC
