/-! ===== the making of six rows of six: a field of fields ===== -/
theorem mna_outer (c : ClassId) (N q i : Nat) : Jvm.Free.Multi.outerC c N q i = arrV c N (fun j => va_rf (if j < i then some (q + 1 + j) else none)) := by
  induction i with
  | zero =>
    rw [Jvm.Free.Multi.outerC, arrV_new]
    congr 1
  | succ i ih =>
    rw [Jvm.Free.Multi.outerC, ih, arrV_store]
    congr 1
    funext j
    unfold updV
    rcases Nat.lt_trichotomy j i with h | h | h
    · rw [if_neg (Nat.ne_of_lt h), if_pos (Nat.lt_succ_of_lt h)]
      exact congrArg va_rf (if_pos h)
    · rw [h, if_pos rfl, if_pos (Nat.lt_succ_self i)]
      rfl
    · rw [if_neg (Nat.ne_of_gt h), if_neg (show ¬ j < i + 1 by omega)]
      exact congrArg va_rf (if_neg (show ¬ j < i by omega))
/-- the world behind a making of several cells -/
theorem pw_pushN {xs : pw_M} {s : State} {H H1 : Heap} {G : pw_G} {mem : pw_M} (Wd : pw_Wd G mem s H) (hz1 : H1.size = H.size + xs.length) (hq : ∀ a : Nat, a < H.size → H1[a]? = H[a]?) (hx : ∀ (i : Nat) (x : pw_E), xs[i]? = some x → va_at G.1 vwCl (H.size + i, pw_e G x) H1) : pw_Wd G (mem ++ xs) s H1 := by
  refine ⟨by rw [List.length_append]; exact Nat.le_trans Wd.1 (Nat.le_add_right _ _), by rw [List.length_append, hz1, Wd.2.1]; have := Wd.1; omega, ?_, Wd.2.2.2.1, (Wd.2.2.2.2.kept (fun a h1 _ => hq a h1)).app Wd.1 _⟩
  intro k q hk
  rw [pw_ws_at] at hk
  by_cases hl : 9 + k < mem.length
  · rw [List.getElem?_append_left hl, ← pw_ws_at] at hk
    exact Wd.2.2.1.kept (fun k q hk => hq q.1 ((Wd.2.2.1 k q hk).lt)) k q hk
  · rw [List.getElem?_append_right (by omega)] at hk
    obtain ⟨x, hx1, hx2⟩ := Option.map_eq_some_iff.mp hk
    have h1 := hx _ _ hx1
    rw [show H.size + (9 + k - mem.length) = G.2.2.1 + k by rw [Wd.2.1]; have := Wd.1; omega, hx2] at h1
    exact h1
section MNA
variable {l : Launch} {G : pw_G} {Y : pw_Y} {R : Room} {mc ms k n pc : Nat} {ls : List (Nat × Value)} {st : List Value} {mem : pw_M} {Q : Option Value → pw_M → Prop}
def mna_L (b : Nat) : pw_M := [.inl (4, 6, .inr (.inr (fun i => if i < 6 then some (b + 1 + i) else none))), .inl (0, 6, .inl (fun _ => 0)), .inl (0, 6, .inl (fun _ => 0)), .inl (0, 6, .inl (fun _ => 0)), .inl (0, 6, .inl (fun _ => 0)), .inl (0, 6, .inl (fun _ => 0)), .inl (0, 6, .inl (fun _ => 0))]
theorem mna_at {b i : Nat} {x : pw_E} (h : (mna_L b)[i + 1]? = some x) : i < 6 ∧ x = .inl (0, 6, .inl (fun _ => 0)) := by
  rcases i with _ | _ | _ | _ | _ | _ | i
  · exact ⟨by omega, (Option.some.inj h).symm⟩
  · exact ⟨by omega, (Option.some.inj h).symm⟩
  · exact ⟨by omega, (Option.some.inj h).symm⟩
  · exact ⟨by omega, (Option.some.inj h).symm⟩
  · exact ⟨by omega, (Option.some.inj h).symm⟩
  · exact ⟨by omega, (Option.some.inj h).symm⟩
  · cases h
theorem PW.mna {idx : Nat} (hw : Cond.classLink Y.1.cls idx ("[" ++ (FieldType.array .int).toString) ∈ pw_tbl) (hc : k + 7 ≤ R.cells ∧ n + 42 ≤ R.slots) (d : decode Y.2.1 pc = .ok (.multianewarray idx 2, 4)) (kk : PW (l, G, Y, R, mc, ms) (k + 7) (n + 42) (pc + 4) ls (.ref mem.length :: st) (mem ++ mna_L mem.length) Q) : PW (l, G, Y, R, mc, ms) k n pc ls (.int (nI 6) :: .int (nI 6) :: st) mem Q := by
  intro p e s m args below meth c H locs la C Wd S0 hz hl0
  have hts := C.2.2.2.2.2.2.2.1
  have hAO : (Cond.arrayOver (.array .int)).before args s = true := C.2.2.2.2.2.2.2.2.2.2
  have hN : (nI 6).toNatClampNeg = 6 := by decide
  intro T hT X
  obtain ⟨vm₁, cA, comp, -, fA, fC, -, -, X', step⟩ := X.multianewarray2F (ty := .int) C.1 C.2.2.2.2.2.2.1 (hts _ hw) hAO (hts _ qA_int) (g := F0 m pc la (.int (nI 6) :: .int (nI 6) :: st.map (pw_v G))) rfl (by rw [C.2.1]; exact d) (n := nI 6) (k := nI 6) (rest := st.map (pw_v G)) rfl (by decide) (by decide) (by rw [hN]; decide) (by rw [hN]; decide) (by rw [hN]; decide) rfl rfl (by rw [hN]; exact hc.1) (by rw [hN]; exact hc.2)
  rw [hN] at X' step
  have hcA : cA = G.2.1 4 := Option.some.inj (fA.symm.trans (Wd.2.2.2.1.2 4 _ rfl).2)
  have hcI : comp = G.2.1 0 := Option.some.inj (fC.symm.trans (Wd.2.2.2.1.2 0 _ rfl).2)
  subst hcA
  subst hcI
  generalize hF : Jvm.Free.Multi.fill (T.setVm vm₁) (G.2.1 4) (G.2.1 0) 6 6 (defaultValue .int) 6 = F at X' step
  have hTh : (T.setVm vm₁).heap = H := hT
  obtain ⟨f1, f2, -, -⟩ := Jvm.Free.Multi.fill_facts (T.setVm vm₁) (G.2.1 4) (G.2.1 0) 6 6 (defaultValue .int) 6
  rw [hF, hTh] at f1 f2
  have hold : ∀ x : Nat, x < H.size → F.heap[x]? = H[x]? := fun x hx => by
    have := Jvm.Free.Multi.fill_old (T.setVm vm₁) (G.2.1 4) (G.2.1 0) 6 6 (defaultValue .int) (a := x) (by rw [hTh]; exact hx) 6
    rw [hF, hTh] at this
    exact this
  have hI : Jvm.Free.Multi.innerC (G.2.1 0) 6 (defaultValue .int) = vp_cell (G.2.1 0) (6, .inl (fun _ => 0)) := by
    show ({ cls := G.2.1 0, slots := Array.replicate 6 (.int 0), vm := .none } : Cell) = _
    rw [arrV_new]
    rfl
  have hrow : ∀ j : Nat, j < 6 → F.heap[H.size + 1 + j]? = some (vp_cell (G.2.1 0) (6, .inl (fun _ => 0))) := fun j hj => by
    have := Jvm.Free.Multi.fill_inner (T.setVm vm₁) (G.2.1 4) (G.2.1 0) 6 6 (defaultValue .int) 6 j hj
    rw [hF, hTh, hI] at this
    exact this
  have hnx := pw_next Wd
  have hout : Jvm.Free.Multi.outerC (G.2.1 4) 6 H.size 6 = vp_cell (G.2.1 4) (6, .inr (.inr (.inr (.inr (fun i => (if i < 6 then some (mem.length + 1 + i) else none).map (pw_ad G)))))) := by
    rw [vp_cell_q, mna_outer]
    refine congrArg (arrV (G.2.1 4) 6) (funext fun j => ?_)
    by_cases h : j < 6
    · rw [if_pos h, if_pos h]
      have h9 := Wd.1
      have e1 : pw_ad G (mem.length + 1 + j) = H.size + 1 + j := by
        rw [Wd.2.1]
        simp only [pw_ad, if_neg (show ¬ mem.length + 1 + j < 9 by omega)]
        omega
      rw [Option.map_some, e1]
    · rw [if_neg h, if_neg h]
      rfl
  rw [hout] at f2
  have hW1 : pw_Wd G (mem ++ mna_L mem.length) s F.heap := by
    refine pw_pushN Wd (by rw [f1]; rfl) hold (fun i x hx => ?_)
    rcases i with _ | i
    · rw [← Option.some.inj hx]
      exact f2
    · obtain ⟨h6, rfl⟩ := mna_at hx
      rw [show H.size + (i + 1) = H.size + 1 + i by omega]
      exact hrow i h6
  obtain ⟨t, a1, b1⟩ := kk p e s m args below meth c F.heap locs la C hW1 (pw_S S0 (by rw [f1]; omega) hold) hz hl0 F rfl X'
  refine ⟨t, step t ?_, b1⟩
  have e9 : T.heap.size = pw_ad G mem.length := by rw [hT, hnx]
  rw [e9]
  exact a1
end MNA
