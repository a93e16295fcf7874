/-! ===== the object as it is made ===== -/
def obj5 : pw_E := .inr (5, [.ref 10, .ref 13, .ref 15, .ref 37, .ref 42, .ref 43, .ref 46, .ref 47, .ref 48, .ref 49, .ref 72, .long 0])
def mem86 (sc : pw_E) : pw_M := KL sc (obj5 :: (((([] : pw_M) ++ ch1) ++ ch2) ++ ch3)) ch4
theorem ch1_len : ((([] : pw_M) ++ ch1)).length = 27 := rfl
theorem ch2_len : (((([] : pw_M) ++ ch1) ++ ch2)).length = 39 := by rw [List.length_append, ch1_len]; rfl
theorem ch3_len : ((((([] : pw_M) ++ ch1) ++ ch2) ++ ch3)).length = 62 := by rw [List.length_append, ch2_len]; rfl
theorem ch4_len (sc : pw_E) : (mem86 sc).length = 95 := by
  unfold mem86
  rw [KL_len, List.length_cons, ch3_len]
  rfl
theorem ch1_sk : ch1.map sk1 = (SK.drop 1).take 27 := rfl
theorem ch2_sk : ch2.map sk1 = (SK.drop 28).take 12 := rfl
theorem ch3_sk : ch3.map sk1 = (SK.drop 40).take 23 := rfl
theorem ch4_sk : ch4.map sk1 = (SK.drop 63).take 23 := rfl
theorem drop86 (sc : pw_E) : (mem86 sc).drop 9 = obj5 :: ((((([] : pw_M) ++ ch1) ++ ch2) ++ ch3) ++ ch4) := rfl
theorem sh86 (sc : pw_E) : ((mem86 sc).drop 9).map sk1 = SK.take 86 := by
  rw [drop86, List.map_cons, List.map_append, List.map_append, List.map_append, List.nil_append, ch1_sk, ch2_sk, ch3_sk, ch4_sk]
  rw [show (86 : Nat) = 63 + 23 from rfl, List.take_add, show (63 : Nat) = 40 + 23 from rfl, List.take_add, show (40 : Nat) = 28 + 12 from rfl, List.take_add, show (28 : Nat) = 1 + 27 from rfl, List.take_add]
  rfl
theorem sp_of {m : pw_M} {n : Nat} (hn : 63 ≤ n) (h : (m.drop 9).map sk1 = SK.take n) : Sp m := by
  intro r hr x hx
  have h1 := congrArg (fun q : List pw_K => q[r - 9]?) h
  simp only [List.getElem?_map, List.getElem?_drop, List.getElem?_take, show 9 + (r - 9) = r by omega, if_pos (show r - 9 < n by omega)] at h1
  rw [hx] at h1
  exact Option.map_eq_some_iff.mp h1
section XINI
variable {sc : pw_E}
set_option maxHeartbeats 16000000 in
theorem i_Laws : Ret 3 85 1100 mX5_init [.ref 9] (KL sc [] [.inr (5, [.null, .null, .null, .null, .null, .null, .null, .null, .null, .null, .null, .long 0])]) (fun v m1 => v = none ∧ Sp m1 ∧ Ag (fun r => r < 49 ∨ 71 < r) (mem86 sc) m1 ∧ XD m1 49 R0 ∧ XL m1 49 R0) := by
  refine Ret.of (by decide) (Nat.le_of_ble_eq_true rfl) fun l G => ?_
  show PW _ _ _ _ [(0, .ref 9)] [] (KL sc (.inr (5, [.null, .null, .null, .null, .null, .null, .null, .null, .null, .null, .null, .long 0]) :: []) []) _
  refine stg1 rfl ⟨by decide, by decide⟩ ?_
  rw [KL_nil]
  refine stg2 ch1_len ⟨by decide, by decide⟩ ?_
  rw [KL_nil]
  refine stg3 ch2_len ⟨by decide, by decide⟩ ?_
  rw [KL_nil]
  refine stg4 ch3_len ⟨by decide, by decide⟩ ?_
  have hS : Sp (mem86 sc) := sp_of (by decide) (sh86 sc)
  show PW _ _ _ _ [(0, .ref 9), (1, .int (nI 2))] [] (mem86 sc) _
  refine PW.aload_n rfl rfl dX5_init_135 ?_
  refine PW.get fX5_58 (Nat.le_refl 9) (rfl : (mem86 sc)[9]? = _) rfl dX5_init_136 ?_
  refine PW.pdV (ci := 2) (j := 0) [] hS (by decide) rfl kX5_65 (p_forgetAll hS) rfl rfl (Nat.le_of_ble_eq_true rfl) rfl ⟨by decide, by decide⟩ ⟨Nat.le_of_ble_eq_true rfl, Nat.le_of_ble_eq_true rfl⟩ dX5_init_139 (fun v m1 q => ?_)
  obtain ⟨rfl, hS1, hA1, hX1⟩ := q
  refine PW.aload_n rfl rfl dX5_init_142 ?_
  refine PW.get fX5_58 (Nat.le_refl 9) ((hA1 9 (Or.inl (by decide))).trans (rfl : (mem86 sc)[9]? = _)) rfl dX5_init_143 ?_
  refine PW.pdV (ci := 2) (j := 0) [] hS1 (by decide) rfl kX5_68 (p_settleLaws hS1 hX1.1) rfl rfl (Nat.le_of_ble_eq_true rfl) rfl ⟨by decide, by decide⟩ ⟨Nat.le_of_ble_eq_true rfl, Nat.le_of_ble_eq_true rfl⟩ dX5_init_146 (fun v m2 q => ?_)
  obtain ⟨rfl, hS2, hA2, hL2⟩ := q
  refine PW.vret rfl (Nat.le_of_ble_eq_true rfl) (Nat.le_of_ble_eq_true rfl) dX5_init_149 ?_
  exact ⟨rfl, hS2, (hA1.mono (fun r h => by omega)).tr (hA2.mono (fun r h => ⟨by omega, by omega⟩)), hX1.ag hA2 (fun r h1 h2 => ⟨by omega, by omega⟩), hL2⟩
end XINI
