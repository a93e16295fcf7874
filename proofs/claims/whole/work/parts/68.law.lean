/-! ===== the law: a turn of its loop ===== -/
abbrev mL_law (nm : String) : pw_Y := (⟨RL, nm, "([I)Z"⟩, cL_law, 4, some .boolean)
section LWS
variable {l : Launch} {G : pw_G} {Y : pw_Y} {R : Room} {mc ms k n pc : Nat} {ls : List (Nat × Value)} {st : List Value} {mem : pw_M} {Q : Option Value → pw_M → Prop}
theorem PW.rdS {r N j : Nat} {g : Nat → Int32} {i : Int32} (hm : mem[r]? = some (.inl (0, N, .inl g))) (hi : i = nI j) (hj : j < N ∧ N < 10000) (d : decode Y.2.1 pc = .ok (.iaload, 1)) (kk : PW (l, G, Y, R, mc, ms) k n (pc + 1) ls (.int (g j) :: st) mem Q) : PW (l, G, Y, R, mc, ms) k n pc ls (.int i :: .ref r :: st) mem Q := by
  subst hi
  have hc : (nI j).toNatClampNeg = j := nI_clamp (by omega)
  refine PW.iald hm (vp_in_nI hj.1 (by omega)) d ?_
  rw [hc]
  exact kk
end LWS
theorem lg_cmp_rf (z : Int64) : lg_cmp z z = 0 := by
  unfold lg_cmp
  rw [if_neg (fun h => by have h : z < z := h; rw [Int64.lt_iff_toInt_lt] at h; omega), if_pos rfl]
section LWT
variable {nm : String} {l : Launch} {G : pw_G} {k n N j : Nat} {xs : Nat → Int32} {m : pw_M} {Q : Option Value → pw_M → Prop}
theorem lw_type (hR : Rel (.inl (0, N, .inl xs)) m) (hN : N ≤ 3072) (hj : 6 * j + 6 ≤ N) (hk : k ≤ 600000 ∧ n ≤ 7302250) (kk : ∀ m2, Rel (.inl (0, N, .inl xs)) m2 → PW (l, G, mL_law nm, room_1, 600000, 7302250) k n 807 [(0, .ref 8), (1, .ref 9), (2, .ref 95), (3, .int (nI (6 * j)))] [] m2 Q) : PW (l, G, mL_law nm, room_1, 600000, 7302250) k n 144 [(0, .ref 8), (1, .ref 9), (2, .ref 95), (3, .int (nI (6 * j)))] [] m Q := by
  obtain ⟨hSh, hm8⟩ := hR.sh
  obtain ⟨v, Q1, e1, e2⟩ := b_type hR (xs (6 * j + 1))
  refine PW.aload_n rfl rfl dL_law_144 ?_
  refine PW.aload_n rfl rfl dL_law_145 ?_
  refine PW.iload_n rfl rfl dL_law_146 ?_
  refine PW.iconst (v := nI 1) (by decide) dL_law_147 ?_
  refine PW.iaddN dL_law_148 ?_
  refine PW.rdS hm8 rfl ⟨by omega, by omega⟩ dL_law_149 ?_
  refine PW.dV (ci := 5) (j := 0) [.int (xs (6 * j + 1))] hSh (by decide) rfl kL_13 e1 rfl rfl (Nat.le_of_ble_eq_true rfl) rfl ⟨by decide, by decide⟩ hk dL_law_150 (fun u m1 q => ?_)
  obtain ⟨rfl, hq⟩ := q
  obtain ⟨⟨hSh, hm8⟩, e3⟩ := e2 m1 hq
  refine PW.aload_n rfl rfl dL_law_153 ?_
  refine PW.aload_n rfl rfl dL_law_154 ?_
  refine PW.iload_n rfl rfl dL_law_155 ?_
  refine PW.iconst (v := nI 1) (by decide) dL_law_156 ?_
  refine PW.iaddN dL_law_157 ?_
  refine PW.rdS hm8 rfl ⟨by omega, by omega⟩ dL_law_158 ?_
  refine PW.dV (ci := 6) (j := 0) [.int (xs (6 * j + 1))] hSh (by decide) rfl kL_17 e3 rfl rfl (Nat.le_of_ble_eq_true rfl) rfl ⟨by decide, by decide⟩ hk dL_law_159 (fun u m2 q => ?_)
  obtain ⟨rfl, hR2⟩ := q
  refine PW.icmp_eq 807 (by decide) dL_law_162 (fun _ => kk m2 hR2) (fun h => absurd rfl h)
theorem lw_clear (hR : Rel (.inl (0, N, .inl xs)) m) (hN : N ≤ 3072) (hj : 6 * j + 6 ≤ N) (hk : k ≤ 600000 ∧ n ≤ 7302250) (kk : ∀ m2, Rel (.inl (0, N, .inl xs)) m2 → PW (l, G, mL_law nm, room_1, 600000, 7302250) k n 807 [(0, .ref 8), (1, .ref 9), (2, .ref 95), (3, .int (nI (6 * j)))] [] m2 Q) : PW (l, G, mL_law nm, room_1, 600000, 7302250) k n 167 [(0, .ref 8), (1, .ref 9), (2, .ref 95), (3, .int (nI (6 * j)))] [] m Q := by
  obtain ⟨hSh, hm8⟩ := hR.sh
  obtain ⟨v, Q1, e1, e2⟩ := b_clear hR 
  refine PW.aload_n rfl rfl dL_law_167 ?_
  refine PW.dV (ci := 5) (j := 0) [] hSh (by decide) rfl kL_18 e1 rfl rfl (Nat.le_of_ble_eq_true rfl) rfl ⟨by decide, by decide⟩ hk dL_law_168 (fun u m1 q => ?_)
  obtain ⟨rfl, hq⟩ := q
  obtain ⟨⟨hSh, hm8⟩, e3⟩ := e2 m1 hq
  refine PW.aload_n rfl rfl dL_law_171 ?_
  refine PW.dV (ci := 6) (j := 0) [] hSh (by decide) rfl kL_22 e3 rfl rfl (Nat.le_of_ble_eq_true rfl) rfl ⟨by decide, by decide⟩ hk dL_law_172 (fun u m2 q => ?_)
  obtain ⟨rfl, hR2⟩ := q
  refine PW.icmp_eq 807 (by decide) dL_law_175 (fun _ => kk m2 hR2) (fun h => absurd rfl h)
theorem lw_realm (hR : Rel (.inl (0, N, .inl xs)) m) (hN : N ≤ 3072) (hj : 6 * j + 6 ≤ N) (hk : k ≤ 600000 ∧ n ≤ 7302250) (kk : ∀ m2, Rel (.inl (0, N, .inl xs)) m2 → PW (l, G, mL_law nm, room_1, 600000, 7302250) k n 807 [(0, .ref 8), (1, .ref 9), (2, .ref 95), (3, .int (nI (6 * j)))] [] m2 Q) : PW (l, G, mL_law nm, room_1, 600000, 7302250) k n 180 [(0, .ref 8), (1, .ref 9), (2, .ref 95), (3, .int (nI (6 * j)))] [] m Q := by
  obtain ⟨hSh, hm8⟩ := hR.sh
  obtain ⟨v, Q1, e1, e2⟩ := b_realm hR 
  refine PW.aload_n rfl rfl dL_law_180 ?_
  refine PW.dV (ci := 5) (j := 0) [] hSh (by decide) rfl kL_23 e1 rfl rfl (Nat.le_of_ble_eq_true rfl) rfl ⟨by decide, by decide⟩ hk dL_law_181 (fun u m1 q => ?_)
  obtain ⟨rfl, hq⟩ := q
  obtain ⟨⟨hSh, hm8⟩, e3⟩ := e2 m1 hq
  refine PW.aload_n rfl rfl dL_law_184 ?_
  refine PW.dV (ci := 6) (j := 0) [] hSh (by decide) rfl kL_26 e3 rfl rfl (Nat.le_of_ble_eq_true rfl) rfl ⟨by decide, by decide⟩ hk dL_law_185 (fun u m2 q => ?_)
  obtain ⟨rfl, hR2⟩ := q
  refine PW.icmp_eq 807 (by decide) dL_law_188 (fun _ => kk m2 hR2) (fun h => absurd rfl h)
theorem lw_pocket (hR : Rel (.inl (0, N, .inl xs)) m) (hN : N ≤ 3072) (hj : 6 * j + 6 ≤ N) (hk : k ≤ 600000 ∧ n ≤ 7302250) (kk : ∀ m2, Rel (.inl (0, N, .inl xs)) m2 → PW (l, G, mL_law nm, room_1, 600000, 7302250) k n 807 [(0, .ref 8), (1, .ref 9), (2, .ref 95), (3, .int (nI (6 * j)))] [] m2 Q) : PW (l, G, mL_law nm, room_1, 600000, 7302250) k n 193 [(0, .ref 8), (1, .ref 9), (2, .ref 95), (3, .int (nI (6 * j)))] [] m Q := by
  obtain ⟨hSh, hm8⟩ := hR.sh
  obtain ⟨v, Q1, e1, e2⟩ := b_pocket hR (xs (6 * j + 1)) (xs (6 * j + 2))
  refine PW.aload_n rfl rfl dL_law_193 ?_
  refine PW.aload_n rfl rfl dL_law_194 ?_
  refine PW.iload_n rfl rfl dL_law_195 ?_
  refine PW.iconst (v := nI 1) (by decide) dL_law_196 ?_
  refine PW.iaddN dL_law_197 ?_
  refine PW.rdS hm8 rfl ⟨by omega, by omega⟩ dL_law_198 ?_
  refine PW.aload_n rfl rfl dL_law_199 ?_
  refine PW.iload_n rfl rfl dL_law_200 ?_
  refine PW.iconst (v := nI 2) (by decide) dL_law_201 ?_
  refine PW.iaddN dL_law_202 ?_
  refine PW.rdS hm8 rfl ⟨by omega, by omega⟩ dL_law_203 ?_
  refine PW.dV (ci := 5) (j := 0) [.int (xs (6 * j + 1)), .int (xs (6 * j + 2))] hSh (by decide) rfl kL_27 e1 rfl rfl (Nat.le_of_ble_eq_true rfl) rfl ⟨by decide, by decide⟩ hk dL_law_204 (fun u m1 q => ?_)
  obtain ⟨rfl, hq⟩ := q
  obtain ⟨⟨hSh, hm8⟩, e3⟩ := e2 m1 hq
  refine PW.aload_n rfl rfl dL_law_207 ?_
  refine PW.aload_n rfl rfl dL_law_208 ?_
  refine PW.iload_n rfl rfl dL_law_209 ?_
  refine PW.iconst (v := nI 1) (by decide) dL_law_210 ?_
  refine PW.iaddN dL_law_211 ?_
  refine PW.rdS hm8 rfl ⟨by omega, by omega⟩ dL_law_212 ?_
  refine PW.aload_n rfl rfl dL_law_213 ?_
  refine PW.iload_n rfl rfl dL_law_214 ?_
  refine PW.iconst (v := nI 2) (by decide) dL_law_215 ?_
  refine PW.iaddN dL_law_216 ?_
  refine PW.rdS hm8 rfl ⟨by omega, by omega⟩ dL_law_217 ?_
  refine PW.dV (ci := 6) (j := 0) [.int (xs (6 * j + 1)), .int (xs (6 * j + 2))] hSh (by decide) rfl kL_31 e3 rfl rfl (Nat.le_of_ble_eq_true rfl) rfl ⟨by decide, by decide⟩ hk dL_law_218 (fun u m2 q => ?_)
  obtain ⟨rfl, hR2⟩ := q
  refine PW.icmp_eq 807 (by decide) dL_law_221 (fun _ => kk m2 hR2) (fun h => absurd rfl h)
theorem lw_thing (hR : Rel (.inl (0, N, .inl xs)) m) (hN : N ≤ 3072) (hj : 6 * j + 6 ≤ N) (hk : k ≤ 600000 ∧ n ≤ 7302250) (kk : ∀ m2, Rel (.inl (0, N, .inl xs)) m2 → PW (l, G, mL_law nm, room_1, 600000, 7302250) k n 807 [(0, .ref 8), (1, .ref 9), (2, .ref 95), (3, .int (nI (6 * j)))] [] m2 Q) : PW (l, G, mL_law nm, room_1, 600000, 7302250) k n 226 [(0, .ref 8), (1, .ref 9), (2, .ref 95), (3, .int (nI (6 * j)))] [] m Q := by
  obtain ⟨hSh, hm8⟩ := hR.sh
  obtain ⟨v, Q1, e1, e2⟩ := b_thing hR (xs (6 * j + 1)) (xs (6 * j + 2))
  refine PW.aload_n rfl rfl dL_law_226 ?_
  refine PW.aload_n rfl rfl dL_law_227 ?_
  refine PW.iload_n rfl rfl dL_law_228 ?_
  refine PW.iconst (v := nI 1) (by decide) dL_law_229 ?_
  refine PW.iaddN dL_law_230 ?_
  refine PW.rdS hm8 rfl ⟨by omega, by omega⟩ dL_law_231 ?_
  refine PW.aload_n rfl rfl dL_law_232 ?_
  refine PW.iload_n rfl rfl dL_law_233 ?_
  refine PW.iconst (v := nI 2) (by decide) dL_law_234 ?_
  refine PW.iaddN dL_law_235 ?_
  refine PW.rdS hm8 rfl ⟨by omega, by omega⟩ dL_law_236 ?_
  refine PW.dV (ci := 5) (j := 0) [.int (xs (6 * j + 1)), .int (xs (6 * j + 2))] hSh (by decide) rfl kL_32 e1 rfl rfl (Nat.le_of_ble_eq_true rfl) rfl ⟨by decide, by decide⟩ hk dL_law_237 (fun u m1 q => ?_)
  obtain ⟨rfl, hq⟩ := q
  obtain ⟨⟨hSh, hm8⟩, e3⟩ := e2 m1 hq
  refine PW.aload_n rfl rfl dL_law_240 ?_
  refine PW.aload_n rfl rfl dL_law_241 ?_
  refine PW.iload_n rfl rfl dL_law_242 ?_
  refine PW.iconst (v := nI 1) (by decide) dL_law_243 ?_
  refine PW.iaddN dL_law_244 ?_
  refine PW.rdS hm8 rfl ⟨by omega, by omega⟩ dL_law_245 ?_
  refine PW.aload_n rfl rfl dL_law_246 ?_
  refine PW.iload_n rfl rfl dL_law_247 ?_
  refine PW.iconst (v := nI 2) (by decide) dL_law_248 ?_
  refine PW.iaddN dL_law_249 ?_
  refine PW.rdS hm8 rfl ⟨by omega, by omega⟩ dL_law_250 ?_
  refine PW.dV (ci := 6) (j := 0) [.int (xs (6 * j + 1)), .int (xs (6 * j + 2))] hSh (by decide) rfl kL_35 e3 rfl rfl (Nat.le_of_ble_eq_true rfl) rfl ⟨by decide, by decide⟩ hk dL_law_251 (fun u m2 q => ?_)
  obtain ⟨rfl, hR2⟩ := q
  refine PW.icmp_eq 807 (by decide) dL_law_254 (fun _ => kk m2 hR2) (fun h => absurd rfl h)
theorem lw_letsIn (hR : Rel (.inl (0, N, .inl xs)) m) (hN : N ≤ 3072) (hj : 6 * j + 6 ≤ N) (hk : k ≤ 600000 ∧ n ≤ 7302250) (kk : ∀ m2, Rel (.inl (0, N, .inl xs)) m2 → PW (l, G, mL_law nm, room_1, 600000, 7302250) k n 807 [(0, .ref 8), (1, .ref 9), (2, .ref 95), (3, .int (nI (6 * j)))] [] m2 Q) : PW (l, G, mL_law nm, room_1, 600000, 7302250) k n 259 [(0, .ref 8), (1, .ref 9), (2, .ref 95), (3, .int (nI (6 * j)))] [] m Q := by
  obtain ⟨hSh, hm8⟩ := hR.sh
  obtain ⟨v, Q1, e1, e2⟩ := b_letsIn hR (xs (6 * j + 1)) (xs (6 * j + 2))
  refine PW.aload_n rfl rfl dL_law_259 ?_
  refine PW.aload_n rfl rfl dL_law_260 ?_
  refine PW.iload_n rfl rfl dL_law_261 ?_
  refine PW.iconst (v := nI 1) (by decide) dL_law_262 ?_
  refine PW.iaddN dL_law_263 ?_
  refine PW.rdS hm8 rfl ⟨by omega, by omega⟩ dL_law_264 ?_
  refine PW.aload_n rfl rfl dL_law_265 ?_
  refine PW.iload_n rfl rfl dL_law_266 ?_
  refine PW.iconst (v := nI 2) (by decide) dL_law_267 ?_
  refine PW.iaddN dL_law_268 ?_
  refine PW.rdS hm8 rfl ⟨by omega, by omega⟩ dL_law_269 ?_
  refine PW.dV (ci := 5) (j := 0) [.int (xs (6 * j + 1)), .int (xs (6 * j + 2))] hSh (by decide) rfl kL_36 e1 rfl rfl (Nat.le_of_ble_eq_true rfl) rfl ⟨by decide, by decide⟩ hk dL_law_270 (fun u m1 q => ?_)
  obtain ⟨rfl, hq⟩ := q
  obtain ⟨⟨hSh, hm8⟩, e3⟩ := e2 m1 hq
  refine PW.aload_n rfl rfl dL_law_273 ?_
  refine PW.aload_n rfl rfl dL_law_274 ?_
  refine PW.iload_n rfl rfl dL_law_275 ?_
  refine PW.iconst (v := nI 1) (by decide) dL_law_276 ?_
  refine PW.iaddN dL_law_277 ?_
  refine PW.rdS hm8 rfl ⟨by omega, by omega⟩ dL_law_278 ?_
  refine PW.aload_n rfl rfl dL_law_279 ?_
  refine PW.iload_n rfl rfl dL_law_280 ?_
  refine PW.iconst (v := nI 2) (by decide) dL_law_281 ?_
  refine PW.iaddN dL_law_282 ?_
  refine PW.rdS hm8 rfl ⟨by omega, by omega⟩ dL_law_283 ?_
  refine PW.dV (ci := 6) (j := 0) [.int (xs (6 * j + 1)), .int (xs (6 * j + 2))] hSh (by decide) rfl kL_39 e3 rfl rfl (Nat.le_of_ble_eq_true rfl) rfl ⟨by decide, by decide⟩ hk dL_law_284 (fun u m2 q => ?_)
  obtain ⟨rfl, hR2⟩ := q
  refine PW.icmp_eq 807 (by decide) dL_law_287 (fun _ => kk m2 hR2) (fun h => absurd rfl h)
theorem lw_fixed (hR : Rel (.inl (0, N, .inl xs)) m) (hN : N ≤ 3072) (hj : 6 * j + 6 ≤ N) (hk : k ≤ 600000 ∧ n ≤ 7302250) (kk : ∀ m2, Rel (.inl (0, N, .inl xs)) m2 → PW (l, G, mL_law nm, room_1, 600000, 7302250) k n 807 [(0, .ref 8), (1, .ref 9), (2, .ref 95), (3, .int (nI (6 * j)))] [] m2 Q) : PW (l, G, mL_law nm, room_1, 600000, 7302250) k n 292 [(0, .ref 8), (1, .ref 9), (2, .ref 95), (3, .int (nI (6 * j)))] [] m Q := by
  obtain ⟨hSh, hm8⟩ := hR.sh
  obtain ⟨v, Q1, e1, e2⟩ := b_fixed hR (xs (6 * j + 1))
  refine PW.aload_n rfl rfl dL_law_292 ?_
  refine PW.aload_n rfl rfl dL_law_293 ?_
  refine PW.iload_n rfl rfl dL_law_294 ?_
  refine PW.iconst (v := nI 1) (by decide) dL_law_295 ?_
  refine PW.iaddN dL_law_296 ?_
  refine PW.rdS hm8 rfl ⟨by omega, by omega⟩ dL_law_297 ?_
  refine PW.dV (ci := 5) (j := 0) [.int (xs (6 * j + 1))] hSh (by decide) rfl kL_40 e1 rfl rfl (Nat.le_of_ble_eq_true rfl) rfl ⟨by decide, by decide⟩ hk dL_law_298 (fun u m1 q => ?_)
  obtain ⟨rfl, hq⟩ := q
  obtain ⟨⟨hSh, hm8⟩, e3⟩ := e2 m1 hq
  refine PW.aload_n rfl rfl dL_law_301 ?_
  refine PW.aload_n rfl rfl dL_law_302 ?_
  refine PW.iload_n rfl rfl dL_law_303 ?_
  refine PW.iconst (v := nI 1) (by decide) dL_law_304 ?_
  refine PW.iaddN dL_law_305 ?_
  refine PW.rdS hm8 rfl ⟨by omega, by omega⟩ dL_law_306 ?_
  refine PW.dV (ci := 6) (j := 0) [.int (xs (6 * j + 1))] hSh (by decide) rfl kL_43 e3 rfl rfl (Nat.le_of_ble_eq_true rfl) rfl ⟨by decide, by decide⟩ hk dL_law_307 (fun u m2 q => ?_)
  obtain ⟨rfl, hR2⟩ := q
  refine PW.icmp_eq 807 (by decide) dL_law_310 (fun _ => kk m2 hR2) (fun h => absurd rfl h)
theorem lw_now (hR : Rel (.inl (0, N, .inl xs)) m) (hN : N ≤ 3072) (hj : 6 * j + 6 ≤ N) (hk : k ≤ 600000 ∧ n ≤ 7302250) (kk : ∀ m2, Rel (.inl (0, N, .inl xs)) m2 → PW (l, G, mL_law nm, room_1, 600000, 7302250) k n 807 [(0, .ref 8), (1, .ref 9), (2, .ref 95), (3, .int (nI (6 * j)))] [] m2 Q) : PW (l, G, mL_law nm, room_1, 600000, 7302250) k n 315 [(0, .ref 8), (1, .ref 9), (2, .ref 95), (3, .int (nI (6 * j)))] [] m Q := by
  obtain ⟨hSh, hm8⟩ := hR.sh
  obtain ⟨v, Q1, e1, e2⟩ := b_now hR (xs (6 * j + 1))
  refine PW.aload_n rfl rfl dL_law_315 ?_
  refine PW.aload_n rfl rfl dL_law_316 ?_
  refine PW.iload_n rfl rfl dL_law_317 ?_
  refine PW.iconst (v := nI 1) (by decide) dL_law_318 ?_
  refine PW.iaddN dL_law_319 ?_
  refine PW.rdS hm8 rfl ⟨by omega, by omega⟩ dL_law_320 ?_
  refine PW.dV (ci := 5) (j := 0) [.int (xs (6 * j + 1))] hSh (by decide) rfl kL_44 e1 rfl rfl (Nat.le_of_ble_eq_true rfl) rfl ⟨by decide, by decide⟩ hk dL_law_321 (fun u m1 q => ?_)
  obtain ⟨rfl, hq⟩ := q
  obtain ⟨⟨hSh, hm8⟩, e3⟩ := e2 m1 hq
  refine PW.aload_n rfl rfl dL_law_324 ?_
  refine PW.aload_n rfl rfl dL_law_325 ?_
  refine PW.iload_n rfl rfl dL_law_326 ?_
  refine PW.iconst (v := nI 1) (by decide) dL_law_327 ?_
  refine PW.iaddN dL_law_328 ?_
  refine PW.rdS hm8 rfl ⟨by omega, by omega⟩ dL_law_329 ?_
  refine PW.dV (ci := 6) (j := 0) [.int (xs (6 * j + 1))] hSh (by decide) rfl kL_47 e3 rfl rfl (Nat.le_of_ble_eq_true rfl) rfl ⟨by decide, by decide⟩ hk dL_law_330 (fun u m2 q => ?_)
  obtain ⟨rfl, hR2⟩ := q
  refine PW.icmp_eq 807 (by decide) dL_law_333 (fun _ => kk m2 hR2) (fun h => absurd rfl h)
theorem lw_moves (hR : Rel (.inl (0, N, .inl xs)) m) (hN : N ≤ 3072) (hj : 6 * j + 6 ≤ N) (hk : k ≤ 600000 ∧ n ≤ 7302250) (kk : ∀ m2, Rel (.inl (0, N, .inl xs)) m2 → PW (l, G, mL_law nm, room_1, 600000, 7302250) k n 807 [(0, .ref 8), (1, .ref 9), (2, .ref 95), (3, .int (nI (6 * j)))] [] m2 Q) : PW (l, G, mL_law nm, room_1, 600000, 7302250) k n 338 [(0, .ref 8), (1, .ref 9), (2, .ref 95), (3, .int (nI (6 * j)))] [] m Q := by
  obtain ⟨hSh, hm8⟩ := hR.sh
  obtain ⟨v, Q1, e1, e2⟩ := b_moves hR (xs (6 * j + 1)) (xs (6 * j + 2))
  refine PW.aload_n rfl rfl dL_law_338 ?_
  refine PW.aload_n rfl rfl dL_law_339 ?_
  refine PW.iload_n rfl rfl dL_law_340 ?_
  refine PW.iconst (v := nI 1) (by decide) dL_law_341 ?_
  refine PW.iaddN dL_law_342 ?_
  refine PW.rdS hm8 rfl ⟨by omega, by omega⟩ dL_law_343 ?_
  refine PW.aload_n rfl rfl dL_law_344 ?_
  refine PW.iload_n rfl rfl dL_law_345 ?_
  refine PW.iconst (v := nI 2) (by decide) dL_law_346 ?_
  refine PW.iaddN dL_law_347 ?_
  refine PW.rdS hm8 rfl ⟨by omega, by omega⟩ dL_law_348 ?_
  refine PW.dV (ci := 5) (j := 0) [.int (xs (6 * j + 1)), .int (xs (6 * j + 2))] hSh (by decide) rfl kL_48 e1 rfl rfl (Nat.le_of_ble_eq_true rfl) rfl ⟨by decide, by decide⟩ hk dL_law_349 (fun u m1 q => ?_)
  obtain ⟨rfl, hq⟩ := q
  obtain ⟨⟨hSh, hm8⟩, e3⟩ := e2 m1 hq
  refine PW.aload_n rfl rfl dL_law_352 ?_
  refine PW.aload_n rfl rfl dL_law_353 ?_
  refine PW.iload_n rfl rfl dL_law_354 ?_
  refine PW.iconst (v := nI 1) (by decide) dL_law_355 ?_
  refine PW.iaddN dL_law_356 ?_
  refine PW.rdS hm8 rfl ⟨by omega, by omega⟩ dL_law_357 ?_
  refine PW.aload_n rfl rfl dL_law_358 ?_
  refine PW.iload_n rfl rfl dL_law_359 ?_
  refine PW.iconst (v := nI 2) (by decide) dL_law_360 ?_
  refine PW.iaddN dL_law_361 ?_
  refine PW.rdS hm8 rfl ⟨by omega, by omega⟩ dL_law_362 ?_
  refine PW.dV (ci := 6) (j := 0) [.int (xs (6 * j + 1)), .int (xs (6 * j + 2))] hSh (by decide) rfl kL_51 e3 rfl rfl (Nat.le_of_ble_eq_true rfl) rfl ⟨by decide, by decide⟩ hk dL_law_363 (fun u m2 q => ?_)
  obtain ⟨rfl, hR2⟩ := q
  refine PW.icmp_eq 807 (by decide) dL_law_366 (fun _ => kk m2 hR2) (fun h => absurd rfl h)
theorem lw_night (hR : Rel (.inl (0, N, .inl xs)) m) (hN : N ≤ 3072) (hj : 6 * j + 6 ≤ N) (hk : k ≤ 600000 ∧ n ≤ 7302250) (kk : ∀ m2, Rel (.inl (0, N, .inl xs)) m2 → PW (l, G, mL_law nm, room_1, 600000, 7302250) k n 807 [(0, .ref 8), (1, .ref 9), (2, .ref 95), (3, .int (nI (6 * j)))] [] m2 Q) : PW (l, G, mL_law nm, room_1, 600000, 7302250) k n 371 [(0, .ref 8), (1, .ref 9), (2, .ref 95), (3, .int (nI (6 * j)))] [] m Q := by
  obtain ⟨hSh, hm8⟩ := hR.sh
  obtain ⟨v, Q1, e1, e2⟩ := b_night hR 
  refine PW.aload_n rfl rfl dL_law_371 ?_
  refine PW.dV (ci := 5) (j := 0) [] hSh (by decide) rfl kL_52 e1 rfl rfl (Nat.le_of_ble_eq_true rfl) rfl ⟨by decide, by decide⟩ hk dL_law_372 (fun u m1 q => ?_)
  obtain ⟨rfl, hq⟩ := q
  obtain ⟨⟨hSh, hm8⟩, e3⟩ := e2 m1 hq
  refine PW.aload_n rfl rfl dL_law_375 ?_
  refine PW.dV (ci := 6) (j := 0) [] hSh (by decide) rfl kL_55 e3 rfl rfl (Nat.le_of_ble_eq_true rfl) rfl ⟨by decide, by decide⟩ hk dL_law_376 (fun u m2 q => ?_)
  obtain ⟨rfl, hR2⟩ := q
  refine PW.icmp_eq 807 (by decide) dL_law_379 (fun _ => kk m2 hR2) (fun h => absurd rfl h)
theorem lw_undo (hR : Rel (.inl (0, N, .inl xs)) m) (hN : N ≤ 3072) (hj : 6 * j + 6 ≤ N) (hk : k ≤ 600000 ∧ n ≤ 7302250) (kk : ∀ m2, Rel (.inl (0, N, .inl xs)) m2 → PW (l, G, mL_law nm, room_1, 600000, 7302250) k n 807 [(0, .ref 8), (1, .ref 9), (2, .ref 95), (3, .int (nI (6 * j)))] [] m2 Q) : PW (l, G, mL_law nm, room_1, 600000, 7302250) k n 384 [(0, .ref 8), (1, .ref 9), (2, .ref 95), (3, .int (nI (6 * j)))] [] m Q := by
  obtain ⟨hSh, hm8⟩ := hR.sh
  obtain ⟨v, Q1, e1, e2⟩ := b_undo hR 
  refine PW.aload_n rfl rfl dL_law_384 ?_
  refine PW.dV (ci := 5) (j := 0) [] hSh (by decide) rfl kL_56 e1 rfl rfl (Nat.le_of_ble_eq_true rfl) rfl ⟨by decide, by decide⟩ hk dL_law_385 (fun u m1 q => ?_)
  obtain ⟨rfl, hq⟩ := q
  obtain ⟨⟨hSh, hm8⟩, e3⟩ := e2 m1 hq
  refine PW.aload_n rfl rfl dL_law_388 ?_
  refine PW.dV (ci := 6) (j := 0) [] hSh (by decide) rfl kL_59 e3 rfl rfl (Nat.le_of_ble_eq_true rfl) rfl ⟨by decide, by decide⟩ hk dL_law_389 (fun u m2 q => ?_)
  obtain ⟨rfl, hR2⟩ := q
  refine PW.icmp_eq 807 (by decide) dL_law_392 (fun _ => kk m2 hR2) (fun h => absurd rfl h)
theorem lw_way (hR : Rel (.inl (0, N, .inl xs)) m) (hN : N ≤ 3072) (hj : 6 * j + 6 ≤ N) (hk : k ≤ 600000 ∧ n ≤ 7302250) (kk : ∀ m2, Rel (.inl (0, N, .inl xs)) m2 → PW (l, G, mL_law nm, room_1, 600000, 7302250) k n 807 [(0, .ref 8), (1, .ref 9), (2, .ref 95), (3, .int (nI (6 * j)))] [] m2 Q) : PW (l, G, mL_law nm, room_1, 600000, 7302250) k n 397 [(0, .ref 8), (1, .ref 9), (2, .ref 95), (3, .int (nI (6 * j)))] [] m Q := by
  obtain ⟨hSh, hm8⟩ := hR.sh
  obtain ⟨v, Q1, e1, e2⟩ := b_way hR (xs (6 * j + 1)) (xs (6 * j + 2)) (xs (6 * j + 3))
  refine PW.aload_n rfl rfl dL_law_397 ?_
  refine PW.aload_n rfl rfl dL_law_398 ?_
  refine PW.iload_n rfl rfl dL_law_399 ?_
  refine PW.iconst (v := nI 1) (by decide) dL_law_400 ?_
  refine PW.iaddN dL_law_401 ?_
  refine PW.rdS hm8 rfl ⟨by omega, by omega⟩ dL_law_402 ?_
  refine PW.aload_n rfl rfl dL_law_403 ?_
  refine PW.iload_n rfl rfl dL_law_404 ?_
  refine PW.iconst (v := nI 2) (by decide) dL_law_405 ?_
  refine PW.iaddN dL_law_406 ?_
  refine PW.rdS hm8 rfl ⟨by omega, by omega⟩ dL_law_407 ?_
  refine PW.aload_n rfl rfl dL_law_408 ?_
  refine PW.iload_n rfl rfl dL_law_409 ?_
  refine PW.iconst (v := nI 3) (by decide) dL_law_410 ?_
  refine PW.iaddN dL_law_411 ?_
  refine PW.rdS hm8 rfl ⟨by omega, by omega⟩ dL_law_412 ?_
  refine PW.dV (ci := 5) (j := 0) [.int (xs (6 * j + 1)), .int (xs (6 * j + 2)), .int (xs (6 * j + 3))] hSh (by decide) rfl kL_60 e1 rfl rfl (Nat.le_of_ble_eq_true rfl) rfl ⟨by decide, by decide⟩ hk dL_law_413 (fun u m1 q => ?_)
  obtain ⟨rfl, hq⟩ := q
  obtain ⟨⟨hSh, hm8⟩, e3⟩ := e2 m1 hq
  refine PW.aload_n rfl rfl dL_law_416 ?_
  refine PW.aload_n rfl rfl dL_law_417 ?_
  refine PW.iload_n rfl rfl dL_law_418 ?_
  refine PW.iconst (v := nI 1) (by decide) dL_law_419 ?_
  refine PW.iaddN dL_law_420 ?_
  refine PW.rdS hm8 rfl ⟨by omega, by omega⟩ dL_law_421 ?_
  refine PW.aload_n rfl rfl dL_law_422 ?_
  refine PW.iload_n rfl rfl dL_law_423 ?_
  refine PW.iconst (v := nI 2) (by decide) dL_law_424 ?_
  refine PW.iaddN dL_law_425 ?_
  refine PW.rdS hm8 rfl ⟨by omega, by omega⟩ dL_law_426 ?_
  refine PW.aload_n rfl rfl dL_law_427 ?_
  refine PW.iload_n rfl rfl dL_law_428 ?_
  refine PW.iconst (v := nI 3) (by decide) dL_law_429 ?_
  refine PW.iaddN dL_law_430 ?_
  refine PW.rdS hm8 rfl ⟨by omega, by omega⟩ dL_law_431 ?_
  refine PW.dV (ci := 6) (j := 0) [.int (xs (6 * j + 1)), .int (xs (6 * j + 2)), .int (xs (6 * j + 3))] hSh (by decide) rfl kL_64 e3 rfl rfl (Nat.le_of_ble_eq_true rfl) rfl ⟨by decide, by decide⟩ hk dL_law_432 (fun u m2 q => ?_)
  obtain ⟨rfl, hR2⟩ := q
  refine PW.icmp_eq 807 (by decide) dL_law_435 (fun _ => kk m2 hR2) (fun h => absurd rfl h)
theorem lw_stow (hR : Rel (.inl (0, N, .inl xs)) m) (hN : N ≤ 3072) (hj : 6 * j + 6 ≤ N) (hk : k ≤ 600000 ∧ n ≤ 7302250) (kk : ∀ m2, Rel (.inl (0, N, .inl xs)) m2 → PW (l, G, mL_law nm, room_1, 600000, 7302250) k n 807 [(0, .ref 8), (1, .ref 9), (2, .ref 95), (3, .int (nI (6 * j)))] [] m2 Q) : PW (l, G, mL_law nm, room_1, 600000, 7302250) k n 440 [(0, .ref 8), (1, .ref 9), (2, .ref 95), (3, .int (nI (6 * j)))] [] m Q := by
  obtain ⟨hSh, hm8⟩ := hR.sh
  obtain ⟨v, Q1, e1, e2⟩ := b_stow hR (xs (6 * j + 1))
  refine PW.aload_n rfl rfl dL_law_440 ?_
  refine PW.aload_n rfl rfl dL_law_441 ?_
  refine PW.iload_n rfl rfl dL_law_442 ?_
  refine PW.iconst (v := nI 1) (by decide) dL_law_443 ?_
  refine PW.iaddN dL_law_444 ?_
  refine PW.rdS hm8 rfl ⟨by omega, by omega⟩ dL_law_445 ?_
  refine PW.dV (ci := 5) (j := 0) [.int (xs (6 * j + 1))] hSh (by decide) rfl kL_65 e1 rfl rfl (Nat.le_of_ble_eq_true rfl) rfl ⟨by decide, by decide⟩ hk dL_law_446 (fun u m1 q => ?_)
  obtain ⟨rfl, hq⟩ := q
  obtain ⟨⟨hSh, hm8⟩, e3⟩ := e2 m1 hq
  refine PW.aload_n rfl rfl dL_law_449 ?_
  refine PW.aload_n rfl rfl dL_law_450 ?_
  refine PW.iload_n rfl rfl dL_law_451 ?_
  refine PW.iconst (v := nI 1) (by decide) dL_law_452 ?_
  refine PW.iaddN dL_law_453 ?_
  refine PW.rdS hm8 rfl ⟨by omega, by omega⟩ dL_law_454 ?_
  refine PW.dV (ci := 6) (j := 0) [.int (xs (6 * j + 1))] hSh (by decide) rfl kL_68 e3 rfl rfl (Nat.le_of_ble_eq_true rfl) rfl ⟨by decide, by decide⟩ hk dL_law_455 (fun u m2 q => ?_)
  obtain ⟨rfl, hR2⟩ := q
  refine PW.icmp_eq 807 (by decide) dL_law_458 (fun _ => kk m2 hR2) (fun h => absurd rfl h)
theorem lw_hoard (hR : Rel (.inl (0, N, .inl xs)) m) (hN : N ≤ 3072) (hj : 6 * j + 6 ≤ N) (hk : k ≤ 600000 ∧ n ≤ 7302250) (kk : ∀ m2, Rel (.inl (0, N, .inl xs)) m2 → PW (l, G, mL_law nm, room_1, 600000, 7302250) k n 807 [(0, .ref 8), (1, .ref 9), (2, .ref 95), (3, .int (nI (6 * j)))] [] m2 Q) : PW (l, G, mL_law nm, room_1, 600000, 7302250) k n 463 [(0, .ref 8), (1, .ref 9), (2, .ref 95), (3, .int (nI (6 * j)))] [] m Q := by
  obtain ⟨hSh, hm8⟩ := hR.sh
  obtain ⟨v, Q1, e1, e2⟩ := b_hoard hR (xs (6 * j + 1))
  refine PW.aload_n rfl rfl dL_law_463 ?_
  refine PW.aload_n rfl rfl dL_law_464 ?_
  refine PW.iload_n rfl rfl dL_law_465 ?_
  refine PW.iconst (v := nI 1) (by decide) dL_law_466 ?_
  refine PW.iaddN dL_law_467 ?_
  refine PW.rdS hm8 rfl ⟨by omega, by omega⟩ dL_law_468 ?_
  refine PW.dV (ci := 5) (j := 0) [.int (xs (6 * j + 1))] hSh (by decide) rfl kL_69 e1 rfl rfl (Nat.le_of_ble_eq_true rfl) rfl ⟨by decide, by decide⟩ hk dL_law_469 (fun u m1 q => ?_)
  obtain ⟨rfl, hq⟩ := q
  obtain ⟨⟨hSh, hm8⟩, e3⟩ := e2 m1 hq
  refine PW.aload_n rfl rfl dL_law_472 ?_
  refine PW.aload_n rfl rfl dL_law_473 ?_
  refine PW.iload_n rfl rfl dL_law_474 ?_
  refine PW.iconst (v := nI 1) (by decide) dL_law_475 ?_
  refine PW.iaddN dL_law_476 ?_
  refine PW.rdS hm8 rfl ⟨by omega, by omega⟩ dL_law_477 ?_
  refine PW.dV (ci := 6) (j := 0) [.int (xs (6 * j + 1))] hSh (by decide) rfl kL_72 e3 rfl rfl (Nat.le_of_ble_eq_true rfl) rfl ⟨by decide, by decide⟩ hk dL_law_478 (fun u m2 q => ?_)
  obtain ⟨rfl, hR2⟩ := q
  refine PW.icmp_eq 807 (by decide) dL_law_481 (fun _ => kk m2 hR2) (fun h => absurd rfl h)
theorem lw_saves (hR : Rel (.inl (0, N, .inl xs)) m) (hN : N ≤ 3072) (hj : 6 * j + 6 ≤ N) (hk : k ≤ 600000 ∧ n ≤ 7302250) (kk : ∀ m2, Rel (.inl (0, N, .inl xs)) m2 → PW (l, G, mL_law nm, room_1, 600000, 7302250) k n 807 [(0, .ref 8), (1, .ref 9), (2, .ref 95), (3, .int (nI (6 * j)))] [] m2 Q) : PW (l, G, mL_law nm, room_1, 600000, 7302250) k n 486 [(0, .ref 8), (1, .ref 9), (2, .ref 95), (3, .int (nI (6 * j)))] [] m Q := by
  obtain ⟨hSh, hm8⟩ := hR.sh
  obtain ⟨v, Q1, e1, e2⟩ := b_saves hR (xs (6 * j + 1)) (xs (6 * j + 2))
  refine PW.aload_n rfl rfl dL_law_486 ?_
  refine PW.aload_n rfl rfl dL_law_487 ?_
  refine PW.iload_n rfl rfl dL_law_488 ?_
  refine PW.iconst (v := nI 1) (by decide) dL_law_489 ?_
  refine PW.iaddN dL_law_490 ?_
  refine PW.rdS hm8 rfl ⟨by omega, by omega⟩ dL_law_491 ?_
  refine PW.aload_n rfl rfl dL_law_492 ?_
  refine PW.iload_n rfl rfl dL_law_493 ?_
  refine PW.iconst (v := nI 2) (by decide) dL_law_494 ?_
  refine PW.iaddN dL_law_495 ?_
  refine PW.rdS hm8 rfl ⟨by omega, by omega⟩ dL_law_496 ?_
  refine PW.dV (ci := 5) (j := 0) [.int (xs (6 * j + 1)), .int (xs (6 * j + 2))] hSh (by decide) rfl kL_73 e1 rfl rfl (Nat.le_of_ble_eq_true rfl) rfl ⟨by decide, by decide⟩ hk dL_law_497 (fun u m1 q => ?_)
  obtain ⟨rfl, hq⟩ := q
  obtain ⟨⟨hSh, hm8⟩, e3⟩ := e2 m1 hq
  refine PW.aload_n rfl rfl dL_law_500 ?_
  refine PW.aload_n rfl rfl dL_law_501 ?_
  refine PW.iload_n rfl rfl dL_law_502 ?_
  refine PW.iconst (v := nI 1) (by decide) dL_law_503 ?_
  refine PW.iaddN dL_law_504 ?_
  refine PW.rdS hm8 rfl ⟨by omega, by omega⟩ dL_law_505 ?_
  refine PW.aload_n rfl rfl dL_law_506 ?_
  refine PW.iload_n rfl rfl dL_law_507 ?_
  refine PW.iconst (v := nI 2) (by decide) dL_law_508 ?_
  refine PW.iaddN dL_law_509 ?_
  refine PW.rdS hm8 rfl ⟨by omega, by omega⟩ dL_law_510 ?_
  refine PW.dV (ci := 6) (j := 0) [.int (xs (6 * j + 1)), .int (xs (6 * j + 2))] hSh (by decide) rfl kL_76 e3 rfl rfl (Nat.le_of_ble_eq_true rfl) rfl ⟨by decide, by decide⟩ hk dL_law_511 (fun u m2 q => ?_)
  obtain ⟨rfl, hR2⟩ := q
  refine PW.icmp_eq 807 (by decide) dL_law_514 (fun _ => kk m2 hR2) (fun h => absurd rfl h)
theorem lw_drops (hR : Rel (.inl (0, N, .inl xs)) m) (hN : N ≤ 3072) (hj : 6 * j + 6 ≤ N) (hk : k ≤ 600000 ∧ n ≤ 7302250) (kk : ∀ m2, Rel (.inl (0, N, .inl xs)) m2 → PW (l, G, mL_law nm, room_1, 600000, 7302250) k n 807 [(0, .ref 8), (1, .ref 9), (2, .ref 95), (3, .int (nI (6 * j)))] [] m2 Q) : PW (l, G, mL_law nm, room_1, 600000, 7302250) k n 519 [(0, .ref 8), (1, .ref 9), (2, .ref 95), (3, .int (nI (6 * j)))] [] m Q := by
  obtain ⟨hSh, hm8⟩ := hR.sh
  obtain ⟨v, Q1, e1, e2⟩ := b_drops hR (xs (6 * j + 1)) (xs (6 * j + 2))
  refine PW.aload_n rfl rfl dL_law_519 ?_
  refine PW.aload_n rfl rfl dL_law_520 ?_
  refine PW.iload_n rfl rfl dL_law_521 ?_
  refine PW.iconst (v := nI 1) (by decide) dL_law_522 ?_
  refine PW.iaddN dL_law_523 ?_
  refine PW.rdS hm8 rfl ⟨by omega, by omega⟩ dL_law_524 ?_
  refine PW.aload_n rfl rfl dL_law_525 ?_
  refine PW.iload_n rfl rfl dL_law_526 ?_
  refine PW.iconst (v := nI 2) (by decide) dL_law_527 ?_
  refine PW.iaddN dL_law_528 ?_
  refine PW.rdS hm8 rfl ⟨by omega, by omega⟩ dL_law_529 ?_
  refine PW.dV (ci := 5) (j := 0) [.int (xs (6 * j + 1)), .int (xs (6 * j + 2))] hSh (by decide) rfl kL_77 e1 rfl rfl (Nat.le_of_ble_eq_true rfl) rfl ⟨by decide, by decide⟩ hk dL_law_530 (fun u m1 q => ?_)
  obtain ⟨rfl, hq⟩ := q
  obtain ⟨⟨hSh, hm8⟩, e3⟩ := e2 m1 hq
  refine PW.aload_n rfl rfl dL_law_533 ?_
  refine PW.aload_n rfl rfl dL_law_534 ?_
  refine PW.iload_n rfl rfl dL_law_535 ?_
  refine PW.iconst (v := nI 1) (by decide) dL_law_536 ?_
  refine PW.iaddN dL_law_537 ?_
  refine PW.rdS hm8 rfl ⟨by omega, by omega⟩ dL_law_538 ?_
  refine PW.aload_n rfl rfl dL_law_539 ?_
  refine PW.iload_n rfl rfl dL_law_540 ?_
  refine PW.iconst (v := nI 2) (by decide) dL_law_541 ?_
  refine PW.iaddN dL_law_542 ?_
  refine PW.rdS hm8 rfl ⟨by omega, by omega⟩ dL_law_543 ?_
  refine PW.dV (ci := 6) (j := 0) [.int (xs (6 * j + 1)), .int (xs (6 * j + 2))] hSh (by decide) rfl kL_80 e3 rfl rfl (Nat.le_of_ble_eq_true rfl) rfl ⟨by decide, by decide⟩ hk dL_law_544 (fun u m2 q => ?_)
  obtain ⟨rfl, hR2⟩ := q
  refine PW.icmp_eq 807 (by decide) dL_law_547 (fun _ => kk m2 hR2) (fun h => absurd rfl h)
theorem lw_lay (hR : Rel (.inl (0, N, .inl xs)) m) (hN : N ≤ 3072) (hj : 6 * j + 6 ≤ N) (hk : k ≤ 600000 ∧ n ≤ 7302250) (kk : ∀ m2, Rel (.inl (0, N, .inl xs)) m2 → PW (l, G, mL_law nm, room_1, 600000, 7302250) k n 807 [(0, .ref 8), (1, .ref 9), (2, .ref 95), (3, .int (nI (6 * j)))] [] m2 Q) : PW (l, G, mL_law nm, room_1, 600000, 7302250) k n 552 [(0, .ref 8), (1, .ref 9), (2, .ref 95), (3, .int (nI (6 * j)))] [] m Q := by
  obtain ⟨hSh, hm8⟩ := hR.sh
  obtain ⟨v, Q1, e1, e2⟩ := b_lay hR (xs (6 * j + 1)) (xs (6 * j + 2))
  refine PW.aload_n rfl rfl dL_law_552 ?_
  refine PW.aload_n rfl rfl dL_law_553 ?_
  refine PW.iload_n rfl rfl dL_law_554 ?_
  refine PW.iconst (v := nI 1) (by decide) dL_law_555 ?_
  refine PW.iaddN dL_law_556 ?_
  refine PW.rdS hm8 rfl ⟨by omega, by omega⟩ dL_law_557 ?_
  refine PW.aload_n rfl rfl dL_law_558 ?_
  refine PW.iload_n rfl rfl dL_law_559 ?_
  refine PW.iconst (v := nI 2) (by decide) dL_law_560 ?_
  refine PW.iaddN dL_law_561 ?_
  refine PW.rdS hm8 rfl ⟨by omega, by omega⟩ dL_law_562 ?_
  refine PW.dV (ci := 5) (j := 0) [.int (xs (6 * j + 1)), .int (xs (6 * j + 2))] hSh (by decide) rfl kL_81 e1 rfl rfl (Nat.le_of_ble_eq_true rfl) rfl ⟨by decide, by decide⟩ hk dL_law_563 (fun u m1 q => ?_)
  obtain ⟨rfl, hq⟩ := q
  obtain ⟨⟨hSh, hm8⟩, e3⟩ := e2 m1 hq
  refine PW.aload_n rfl rfl dL_law_566 ?_
  refine PW.aload_n rfl rfl dL_law_567 ?_
  refine PW.iload_n rfl rfl dL_law_568 ?_
  refine PW.iconst (v := nI 1) (by decide) dL_law_569 ?_
  refine PW.iaddN dL_law_570 ?_
  refine PW.rdS hm8 rfl ⟨by omega, by omega⟩ dL_law_571 ?_
  refine PW.aload_n rfl rfl dL_law_572 ?_
  refine PW.iload_n rfl rfl dL_law_573 ?_
  refine PW.iconst (v := nI 2) (by decide) dL_law_574 ?_
  refine PW.iaddN dL_law_575 ?_
  refine PW.rdS hm8 rfl ⟨by omega, by omega⟩ dL_law_576 ?_
  refine PW.dV (ci := 6) (j := 0) [.int (xs (6 * j + 1)), .int (xs (6 * j + 2))] hSh (by decide) rfl kL_84 e3 rfl rfl (Nat.le_of_ble_eq_true rfl) rfl ⟨by decide, by decide⟩ hk dL_law_577 (fun u m2 q => ?_)
  obtain ⟨rfl, hR2⟩ := q
  refine PW.icmp_eq 807 (by decide) dL_law_580 (fun _ => kk m2 hR2) (fun h => absurd rfl h)
theorem lw_stitches (hR : Rel (.inl (0, N, .inl xs)) m) (hN : N ≤ 3072) (hj : 6 * j + 6 ≤ N) (hk : k ≤ 600000 ∧ n ≤ 7302250) (kk : ∀ m2, Rel (.inl (0, N, .inl xs)) m2 → PW (l, G, mL_law nm, room_1, 600000, 7302250) k n 807 [(0, .ref 8), (1, .ref 9), (2, .ref 95), (3, .int (nI (6 * j)))] [] m2 Q) : PW (l, G, mL_law nm, room_1, 600000, 7302250) k n 585 [(0, .ref 8), (1, .ref 9), (2, .ref 95), (3, .int (nI (6 * j)))] [] m Q := by
  obtain ⟨hSh, hm8⟩ := hR.sh
  obtain ⟨v, Q1, e1, e2⟩ := b_stitches hR (xs (6 * j + 1)) (xs (6 * j + 2)) (xs (6 * j + 3))
  refine PW.aload_n rfl rfl dL_law_585 ?_
  refine PW.aload_n rfl rfl dL_law_586 ?_
  refine PW.iload_n rfl rfl dL_law_587 ?_
  refine PW.iconst (v := nI 1) (by decide) dL_law_588 ?_
  refine PW.iaddN dL_law_589 ?_
  refine PW.rdS hm8 rfl ⟨by omega, by omega⟩ dL_law_590 ?_
  refine PW.aload_n rfl rfl dL_law_591 ?_
  refine PW.iload_n rfl rfl dL_law_592 ?_
  refine PW.iconst (v := nI 2) (by decide) dL_law_593 ?_
  refine PW.iaddN dL_law_594 ?_
  refine PW.rdS hm8 rfl ⟨by omega, by omega⟩ dL_law_595 ?_
  refine PW.aload_n rfl rfl dL_law_596 ?_
  refine PW.iload_n rfl rfl dL_law_597 ?_
  refine PW.iconst (v := nI 3) (by decide) dL_law_598 ?_
  refine PW.iaddN dL_law_599 ?_
  refine PW.rdS hm8 rfl ⟨by omega, by omega⟩ dL_law_600 ?_
  refine PW.dV (ci := 5) (j := 0) [.int (xs (6 * j + 1)), .int (xs (6 * j + 2)), .int (xs (6 * j + 3))] hSh (by decide) rfl kL_85 e1 rfl rfl (Nat.le_of_ble_eq_true rfl) rfl ⟨by decide, by decide⟩ hk dL_law_601 (fun u m1 q => ?_)
  obtain ⟨rfl, hq⟩ := q
  obtain ⟨⟨hSh, hm8⟩, e3⟩ := e2 m1 hq
  refine PW.aload_n rfl rfl dL_law_604 ?_
  refine PW.aload_n rfl rfl dL_law_605 ?_
  refine PW.iload_n rfl rfl dL_law_606 ?_
  refine PW.iconst (v := nI 1) (by decide) dL_law_607 ?_
  refine PW.iaddN dL_law_608 ?_
  refine PW.rdS hm8 rfl ⟨by omega, by omega⟩ dL_law_609 ?_
  refine PW.aload_n rfl rfl dL_law_610 ?_
  refine PW.iload_n rfl rfl dL_law_611 ?_
  refine PW.iconst (v := nI 2) (by decide) dL_law_612 ?_
  refine PW.iaddN dL_law_613 ?_
  refine PW.rdS hm8 rfl ⟨by omega, by omega⟩ dL_law_614 ?_
  refine PW.aload_n rfl rfl dL_law_615 ?_
  refine PW.iload_n rfl rfl dL_law_616 ?_
  refine PW.iconst (v := nI 3) (by decide) dL_law_617 ?_
  refine PW.iaddN dL_law_618 ?_
  refine PW.rdS hm8 rfl ⟨by omega, by omega⟩ dL_law_619 ?_
  refine PW.dV (ci := 6) (j := 0) [.int (xs (6 * j + 1)), .int (xs (6 * j + 2)), .int (xs (6 * j + 3))] hSh (by decide) rfl kL_88 e3 rfl rfl (Nat.le_of_ble_eq_true rfl) rfl ⟨by decide, by decide⟩ hk dL_law_620 (fun u m2 q => ?_)
  obtain ⟨rfl, hR2⟩ := q
  refine PW.icmp_eq 807 (by decide) dL_law_623 (fun _ => kk m2 hR2) (fun h => absurd rfl h)
theorem lw_odds (hR : Rel (.inl (0, N, .inl xs)) m) (hN : N ≤ 3072) (hj : 6 * j + 6 ≤ N) (hk : k ≤ 600000 ∧ n ≤ 7302250) (kk : ∀ m2, Rel (.inl (0, N, .inl xs)) m2 → PW (l, G, mL_law nm, room_1, 600000, 7302250) k n 807 [(0, .ref 8), (1, .ref 9), (2, .ref 95), (3, .int (nI (6 * j)))] [] m2 Q) : PW (l, G, mL_law nm, room_1, 600000, 7302250) k n 628 [(0, .ref 8), (1, .ref 9), (2, .ref 95), (3, .int (nI (6 * j)))] [] m Q := by
  obtain ⟨hSh, hm8⟩ := hR.sh
  obtain ⟨v, Q1, e1, e2⟩ := b_odds hR (xs (6 * j + 1)) (xs (6 * j + 2)) (xs (6 * j + 3)) (xs (6 * j + 4)) (xs (6 * j + 5))
  refine PW.aload_n rfl rfl dL_law_628 ?_
  refine PW.aload_n rfl rfl dL_law_629 ?_
  refine PW.iload_n rfl rfl dL_law_630 ?_
  refine PW.iconst (v := nI 1) (by decide) dL_law_631 ?_
  refine PW.iaddN dL_law_632 ?_
  refine PW.rdS hm8 rfl ⟨by omega, by omega⟩ dL_law_633 ?_
  refine PW.aload_n rfl rfl dL_law_634 ?_
  refine PW.iload_n rfl rfl dL_law_635 ?_
  refine PW.iconst (v := nI 2) (by decide) dL_law_636 ?_
  refine PW.iaddN dL_law_637 ?_
  refine PW.rdS hm8 rfl ⟨by omega, by omega⟩ dL_law_638 ?_
  refine PW.aload_n rfl rfl dL_law_639 ?_
  refine PW.iload_n rfl rfl dL_law_640 ?_
  refine PW.iconst (v := nI 3) (by decide) dL_law_641 ?_
  refine PW.iaddN dL_law_642 ?_
  refine PW.rdS hm8 rfl ⟨by omega, by omega⟩ dL_law_643 ?_
  refine PW.aload_n rfl rfl dL_law_644 ?_
  refine PW.iload_n rfl rfl dL_law_645 ?_
  refine PW.iconst (v := nI 4) (by decide) dL_law_646 ?_
  refine PW.iaddN dL_law_647 ?_
  refine PW.rdS hm8 rfl ⟨by omega, by omega⟩ dL_law_648 ?_
  refine PW.aload_n rfl rfl dL_law_649 ?_
  refine PW.iload_n rfl rfl dL_law_650 ?_
  refine PW.iconst (v := nI 5) (by decide) dL_law_651 ?_
  refine PW.iaddN dL_law_652 ?_
  refine PW.rdS hm8 rfl ⟨by omega, by omega⟩ dL_law_653 ?_
  refine PW.dV (ci := 5) (j := 0) [.int (xs (6 * j + 1)), .int (xs (6 * j + 2)), .int (xs (6 * j + 3)), .int (xs (6 * j + 4)), .int (xs (6 * j + 5))] hSh (by decide) rfl kL_89 e1 rfl rfl (Nat.le_of_ble_eq_true rfl) rfl ⟨by decide, by decide⟩ hk dL_law_654 (fun u m1 q => ?_)
  obtain ⟨rfl, hq⟩ := q
  obtain ⟨⟨hSh, hm8⟩, e3⟩ := e2 m1 hq
  refine PW.aload_n rfl rfl dL_law_657 ?_
  refine PW.aload_n rfl rfl dL_law_658 ?_
  refine PW.iload_n rfl rfl dL_law_659 ?_
  refine PW.iconst (v := nI 1) (by decide) dL_law_660 ?_
  refine PW.iaddN dL_law_661 ?_
  refine PW.rdS hm8 rfl ⟨by omega, by omega⟩ dL_law_662 ?_
  refine PW.aload_n rfl rfl dL_law_663 ?_
  refine PW.iload_n rfl rfl dL_law_664 ?_
  refine PW.iconst (v := nI 2) (by decide) dL_law_665 ?_
  refine PW.iaddN dL_law_666 ?_
  refine PW.rdS hm8 rfl ⟨by omega, by omega⟩ dL_law_667 ?_
  refine PW.aload_n rfl rfl dL_law_668 ?_
  refine PW.iload_n rfl rfl dL_law_669 ?_
  refine PW.iconst (v := nI 3) (by decide) dL_law_670 ?_
  refine PW.iaddN dL_law_671 ?_
  refine PW.rdS hm8 rfl ⟨by omega, by omega⟩ dL_law_672 ?_
  refine PW.aload_n rfl rfl dL_law_673 ?_
  refine PW.iload_n rfl rfl dL_law_674 ?_
  refine PW.iconst (v := nI 4) (by decide) dL_law_675 ?_
  refine PW.iaddN dL_law_676 ?_
  refine PW.rdS hm8 rfl ⟨by omega, by omega⟩ dL_law_677 ?_
  refine PW.aload_n rfl rfl dL_law_678 ?_
  refine PW.iload_n rfl rfl dL_law_679 ?_
  refine PW.iconst (v := nI 5) (by decide) dL_law_680 ?_
  refine PW.iaddN dL_law_681 ?_
  refine PW.rdS hm8 rfl ⟨by omega, by omega⟩ dL_law_682 ?_
  refine PW.dV (ci := 6) (j := 0) [.int (xs (6 * j + 1)), .int (xs (6 * j + 2)), .int (xs (6 * j + 3)), .int (xs (6 * j + 4)), .int (xs (6 * j + 5))] hSh (by decide) rfl kL_93 e3 rfl rfl (Nat.le_of_ble_eq_true rfl) rfl ⟨by decide, by decide⟩ hk dL_law_683 (fun u m2 q => ?_)
  obtain ⟨rfl, hR2⟩ := q
  refine PW.icmp_eq 807 (by decide) dL_law_686 (fun _ => kk m2 hR2) (fun h => absurd rfl h)
theorem lw_rate (hR : Rel (.inl (0, N, .inl xs)) m) (hN : N ≤ 3072) (hj : 6 * j + 6 ≤ N) (hk : k ≤ 600000 ∧ n ≤ 7302250) (kk : ∀ m2, Rel (.inl (0, N, .inl xs)) m2 → PW (l, G, mL_law nm, room_1, 600000, 7302250) k n 807 [(0, .ref 8), (1, .ref 9), (2, .ref 95), (3, .int (nI (6 * j)))] [] m2 Q) : PW (l, G, mL_law nm, room_1, 600000, 7302250) k n 691 [(0, .ref 8), (1, .ref 9), (2, .ref 95), (3, .int (nI (6 * j)))] [] m Q := by
  obtain ⟨hSh, hm8⟩ := hR.sh
  obtain ⟨v, Q1, e1, e2⟩ := b_rate hR (xs (6 * j + 1)) (xs (6 * j + 2))
  refine PW.aload_n rfl rfl dL_law_691 ?_
  refine PW.aload_n rfl rfl dL_law_692 ?_
  refine PW.iload_n rfl rfl dL_law_693 ?_
  refine PW.iconst (v := nI 1) (by decide) dL_law_694 ?_
  refine PW.iaddN dL_law_695 ?_
  refine PW.rdS hm8 rfl ⟨by omega, by omega⟩ dL_law_696 ?_
  refine PW.aload_n rfl rfl dL_law_697 ?_
  refine PW.iload_n rfl rfl dL_law_698 ?_
  refine PW.iconst (v := nI 2) (by decide) dL_law_699 ?_
  refine PW.iaddN dL_law_700 ?_
  refine PW.rdS hm8 rfl ⟨by omega, by omega⟩ dL_law_701 ?_
  refine PW.dV (ci := 5) (j := 0) [.int (xs (6 * j + 1)), .int (xs (6 * j + 2))] hSh (by decide) rfl kL_94 e1 rfl rfl (Nat.le_of_ble_eq_true rfl) rfl ⟨by decide, by decide⟩ hk dL_law_702 (fun u m1 q => ?_)
  obtain ⟨rfl, hq⟩ := q
  obtain ⟨⟨hSh, hm8⟩, e3⟩ := e2 m1 hq
  refine PW.aload_n rfl rfl dL_law_705 ?_
  refine PW.aload_n rfl rfl dL_law_706 ?_
  refine PW.iload_n rfl rfl dL_law_707 ?_
  refine PW.iconst (v := nI 1) (by decide) dL_law_708 ?_
  refine PW.iaddN dL_law_709 ?_
  refine PW.rdS hm8 rfl ⟨by omega, by omega⟩ dL_law_710 ?_
  refine PW.aload_n rfl rfl dL_law_711 ?_
  refine PW.iload_n rfl rfl dL_law_712 ?_
  refine PW.iconst (v := nI 2) (by decide) dL_law_713 ?_
  refine PW.iaddN dL_law_714 ?_
  refine PW.rdS hm8 rfl ⟨by omega, by omega⟩ dL_law_715 ?_
  refine PW.dV (ci := 6) (j := 0) [.int (xs (6 * j + 1)), .int (xs (6 * j + 2))] hSh (by decide) rfl kL_97 e3 rfl rfl (Nat.le_of_ble_eq_true rfl) rfl ⟨by decide, by decide⟩ hk dL_law_716 (fun u m2 q => ?_)
  obtain ⟨rfl, hR2⟩ := q
  refine PW.icmp_eq 807 (by decide) dL_law_719 (fun _ => kk m2 hR2) (fun h => absurd rfl h)
theorem lw_keep (hR : Rel (.inl (0, N, .inl xs)) m) (hN : N ≤ 3072) (hj : 6 * j + 6 ≤ N) (hk : k ≤ 600000 ∧ n ≤ 7302250) (kk : ∀ m2, Rel (.inl (0, N, .inl xs)) m2 → PW (l, G, mL_law nm, room_1, 600000, 7302250) k n 807 [(0, .ref 8), (1, .ref 9), (2, .ref 95), (3, .int (nI (6 * j)))] [] m2 Q) : PW (l, G, mL_law nm, room_1, 600000, 7302250) k n 724 [(0, .ref 8), (1, .ref 9), (2, .ref 95), (3, .int (nI (6 * j)))] [] m Q := by
  obtain ⟨hSh, hm8⟩ := hR.sh
  obtain ⟨v, Q1, e1, e2⟩ := b_keep hR (xs (6 * j + 1))
  refine PW.aload_n rfl rfl dL_law_724 ?_
  refine PW.aload_n rfl rfl dL_law_725 ?_
  refine PW.iload_n rfl rfl dL_law_726 ?_
  refine PW.iconst (v := nI 1) (by decide) dL_law_727 ?_
  refine PW.iaddN dL_law_728 ?_
  refine PW.rdS hm8 rfl ⟨by omega, by omega⟩ dL_law_729 ?_
  refine PW.dV (ci := 5) (j := 0) [.int (xs (6 * j + 1))] hSh (by decide) rfl kL_98 e1 rfl rfl (Nat.le_of_ble_eq_true rfl) rfl ⟨by decide, by decide⟩ hk dL_law_730 (fun u m1 q => ?_)
  obtain ⟨rfl, hq⟩ := q
  obtain ⟨⟨hSh, hm8⟩, e3⟩ := e2 m1 hq
  refine PW.aload_n rfl rfl dL_law_733 ?_
  refine PW.aload_n rfl rfl dL_law_734 ?_
  refine PW.iload_n rfl rfl dL_law_735 ?_
  refine PW.iconst (v := nI 1) (by decide) dL_law_736 ?_
  refine PW.iaddN dL_law_737 ?_
  refine PW.rdS hm8 rfl ⟨by omega, by omega⟩ dL_law_738 ?_
  refine PW.dV (ci := 6) (j := 0) [.int (xs (6 * j + 1))] hSh (by decide) rfl kL_101 e3 rfl rfl (Nat.le_of_ble_eq_true rfl) rfl ⟨by decide, by decide⟩ hk dL_law_739 (fun u m2 q => ?_)
  obtain ⟨rfl, hR2⟩ := q
  refine PW.icmp_eq 807 (by decide) dL_law_742 (fun _ => kk m2 hR2) (fun h => absurd rfl h)
theorem lw_back (hR : Rel (.inl (0, N, .inl xs)) m) (hN : N ≤ 3072) (hj : 6 * j + 6 ≤ N) (hk : k ≤ 600000 ∧ n ≤ 7302250) (kk : ∀ m2, Rel (.inl (0, N, .inl xs)) m2 → PW (l, G, mL_law nm, room_1, 600000, 7302250) k n 807 [(0, .ref 8), (1, .ref 9), (2, .ref 95), (3, .int (nI (6 * j)))] [] m2 Q) : PW (l, G, mL_law nm, room_1, 600000, 7302250) k n 747 [(0, .ref 8), (1, .ref 9), (2, .ref 95), (3, .int (nI (6 * j)))] [] m Q := by
  obtain ⟨hSh, hm8⟩ := hR.sh
  obtain ⟨v, Q1, e1, e2⟩ := b_back hR (xs (6 * j + 1))
  refine PW.aload_n rfl rfl dL_law_747 ?_
  refine PW.aload_n rfl rfl dL_law_748 ?_
  refine PW.iload_n rfl rfl dL_law_749 ?_
  refine PW.iconst (v := nI 1) (by decide) dL_law_750 ?_
  refine PW.iaddN dL_law_751 ?_
  refine PW.rdS hm8 rfl ⟨by omega, by omega⟩ dL_law_752 ?_
  refine PW.dV (ci := 5) (j := 0) [.int (xs (6 * j + 1))] hSh (by decide) rfl kL_102 e1 rfl rfl (Nat.le_of_ble_eq_true rfl) rfl ⟨by decide, by decide⟩ hk dL_law_753 (fun u m1 q => ?_)
  obtain ⟨rfl, hq⟩ := q
  obtain ⟨⟨hSh, hm8⟩, e3⟩ := e2 m1 hq
  refine PW.aload_n rfl rfl dL_law_756 ?_
  refine PW.aload_n rfl rfl dL_law_757 ?_
  refine PW.iload_n rfl rfl dL_law_758 ?_
  refine PW.iconst (v := nI 1) (by decide) dL_law_759 ?_
  refine PW.iaddN dL_law_760 ?_
  refine PW.rdS hm8 rfl ⟨by omega, by omega⟩ dL_law_761 ?_
  refine PW.dV (ci := 6) (j := 0) [.int (xs (6 * j + 1))] hSh (by decide) rfl kL_105 e3 rfl rfl (Nat.le_of_ble_eq_true rfl) rfl ⟨by decide, by decide⟩ hk dL_law_762 (fun u m2 q => ?_)
  obtain ⟨rfl, hR2⟩ := q
  refine PW.icmp_eq 807 (by decide) dL_law_765 (fun _ => kk m2 hR2) (fun h => absurd rfl h)
theorem lw_count (hR : Rel (.inl (0, N, .inl xs)) m) (hN : N ≤ 3072) (hj : 6 * j + 6 ≤ N) (hk : k ≤ 600000 ∧ n ≤ 7302250) (kk : ∀ m2, Rel (.inl (0, N, .inl xs)) m2 → PW (l, G, mL_law nm, room_1, 600000, 7302250) k n 807 [(0, .ref 8), (1, .ref 9), (2, .ref 95), (3, .int (nI (6 * j)))] [] m2 Q) : PW (l, G, mL_law nm, room_1, 600000, 7302250) k n 770 [(0, .ref 8), (1, .ref 9), (2, .ref 95), (3, .int (nI (6 * j)))] [] m Q := by
  obtain ⟨hSh, hm8⟩ := hR.sh
  obtain ⟨v, Q1, e1, e2⟩ := b_count hR (xs (6 * j + 1))
  refine PW.aload_n rfl rfl dL_law_770 ?_
  refine PW.aload_n rfl rfl dL_law_771 ?_
  refine PW.iload_n rfl rfl dL_law_772 ?_
  refine PW.iconst (v := nI 1) (by decide) dL_law_773 ?_
  refine PW.iaddN dL_law_774 ?_
  refine PW.rdS hm8 rfl ⟨by omega, by omega⟩ dL_law_775 ?_
  refine PW.dV (ci := 5) (j := 0) [.int (xs (6 * j + 1))] hSh (by decide) rfl kL_106 e1 rfl rfl (Nat.le_of_ble_eq_true rfl) rfl ⟨by decide, by decide⟩ hk dL_law_776 (fun u m1 q => ?_)
  obtain ⟨rfl, hq⟩ := q
  obtain ⟨⟨hSh, hm8⟩, e3⟩ := e2 m1 hq
  refine PW.aload_n rfl rfl dL_law_779 ?_
  refine PW.aload_n rfl rfl dL_law_780 ?_
  refine PW.iload_n rfl rfl dL_law_781 ?_
  refine PW.iconst (v := nI 1) (by decide) dL_law_782 ?_
  refine PW.iaddN dL_law_783 ?_
  refine PW.rdS hm8 rfl ⟨by omega, by omega⟩ dL_law_784 ?_
  refine PW.dV (ci := 6) (j := 0) [.int (xs (6 * j + 1))] hSh (by decide) rfl kL_109 e3 rfl rfl (Nat.le_of_ble_eq_true rfl) rfl ⟨by decide, by decide⟩ hk dL_law_785 (fun u m2 q => ?_)
  obtain ⟨rfl, hR2⟩ := q
  refine PW.icmp_eq 807 (by decide) dL_law_788 (fun _ => kk m2 hR2) (fun h => absurd rfl h)
theorem lw_trace (hR : Rel (.inl (0, N, .inl xs)) m) (hN : N ≤ 3072) (hj : 6 * j + 6 ≤ N) (hk : k ≤ 600000 ∧ n ≤ 7302250) (kk : ∀ m2, Rel (.inl (0, N, .inl xs)) m2 → PW (l, G, mL_law nm, room_1, 600000, 7302250) k n 807 [(0, .ref 8), (1, .ref 9), (2, .ref 95), (3, .int (nI (6 * j)))] [] m2 Q) : PW (l, G, mL_law nm, room_1, 600000, 7302250) k n 793 [(0, .ref 8), (1, .ref 9), (2, .ref 95), (3, .int (nI (6 * j)))] [] m Q := by
  obtain ⟨b, s, R, w, p, d, K, T, h, kp, g, z, L, f, hS, hO, hC, hM⟩ := id hR
  refine PW.aload_n rfl rfl dL_law_793 ?_
  refine PW.cV (ci := 5) (j := 0) [] hS.1 (by decide) rfl kL_110 (x_trace hS) rfl rfl (Nat.le_of_ble_eq_true rfl) rfl ⟨by decide, by decide⟩ hk dL_law_794 ?_
  refine PW.aload_n rfl rfl dL_law_797 ?_
  refine PW.cV (ci := 6) (j := 0) [] hS.1 (by decide) rfl kL_114 (m_trace hS) rfl rfl (Nat.le_of_ble_eq_true rfl) rfl ⟨by decide, by decide⟩ hk dL_law_798 ?_
  rw [hC.2.2.2.2.2.2, hM.2.2.2.2.2]
  refine PW.lcmp dL_law_801 ?_
  refine PW.if_eq 807 (by decide) dL_law_802 (fun _ => kk m hR) (fun h => absurd (lg_cmp_rf z) h)
end LWT
