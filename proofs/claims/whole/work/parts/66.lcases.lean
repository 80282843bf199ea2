section LawCases
abbrev lA (s : State) : Nat → Prop := fun q => s.heap.size ≤ q
abbrev lL (b : Nat) (h hm : Nat → Nat) (o t : Nat) : List (Nat × Value) := [(0, .ref b), (1, .ref (h 0)), (2, .ref (hm 0)), (3, .ref o), (4, .int (nI (6 * t)))]
/-- what holds while the law runs: the machine, the script; so many calls are done -/
def LC (p : Program) (s : State) (m : MethodId) (args : Array Value) (c : Code) (b L : Nat) (xs : Nat → Int32) (t : Nat) : Prop := CallFix p m c cL_law 8 s args wsL_law RL ∧ va_X b L xs s s.heap ∧ b < s.heap.size ∧ 6 * t + 6 ≤ L ∧ L ≤ 3072
/-- the goal behind a call: the class and the reference stand as they should -/
def LK (p : Program) (l : Launch) (e : Env) (s : State) (m : MethodId) (args : Array Value) (below : List Frame) (meth : Method) (c : Code) (cells slots : Nat) (Q : State → Prop) (D : va_G) (cI cJ cO : ClassId) (h hm : Nat → Nat) (o b t : Nat) : Prop :=
  ∀ (g : Nat → Int64) (M : mS) (C : cS) (H : Heap) (locs : List Loc) (ls : Array Slot), CI D cI cJ cO h (lA s) s s.heap H locs (mW cI cJ hm M ++ oW cJ o g) C → Rel (t + 1) C M → lv_has ls 8 (lL b h hm o t) → W p l e room_1 s m args below meth c H locs (cells + 2) (slots + 27) Q (F0 m 981 ls [])
variable {p : Program} {l : Launch} {e : Env} {s : State} {m : MethodId} {args : Array Value} {below : List Frame} {meth : Method} {c : Code} {H : Heap} {locs : List Loc} {cells slots : Nat} {Q : State → Prop} {ls : Array Slot} {D : va_G} {cI cJ cO : ClassId} {h hm : Nat → Nat} {C : cS} {M : mS} {sa sb o b L t : Nat} {g : Nat → Int64} {xs : Nat → Int32}
theorem l_arg {A : Nat → Prop} {pc : Nat} {rest : List Value} {lv : List (Nat × Value)} (F : LC p s m args c b L xs t) (hA : ¬ A b) (hS : va_S A s.heap H locs) (hl : lv_has ls 8 lv) (i0 i4 : Nat) (k0 : lv[i0]? = some (0, .ref b)) (k4 : lv[i4]? = some (4, .int (nI (6 * t)))) (k : Nat) (hk : k < 6) {kn : Int} (hkn : Int32.ofInt kn = nI k)
    (d0 : decode cL_law pc = .ok (.aload_n 0, 1)) (d1 : decode cL_law (pc + 1) = .ok (.iload 4, 2)) (d3 : decode cL_law (pc + 1 + 2) = .ok (.iconst kn, 1)) (d4 : decode cL_law (pc + 1 + 2 + 1) = .ok (.iadd, 1)) (d5 : decode cL_law (pc + 1 + 2 + 1 + 1) = .ok (.iaload, 1))
    (kk : W p l e room_1 s m args below meth c H locs cells slots Q (F0 m (pc + 1 + 2 + 1 + 1 + 1) ls (.int (xs (6 * t + k)) :: rest))) : W p l e room_1 s m args below meth c H locs cells slots Q (F0 m pc ls rest) := by
  obtain ⟨⟨hx, hb, -, -, -⟩, hX, hbl, h6, h3⟩ := F
  refine lv_aload_n hx hb d0 rfl (lv_at hl i0 k0) ?_
  refine lv_iload hx hb d1 (lv_at hl i4 k4) ?_
  refine lv_iconst (v := nI k) hx hb d3 hkn ?_
  refine lv_iadd hx hb d4 ?_
  rw [nI_add]
  refine va_sld hx hb hX hbl hA hS (vp_in_nI (n := 6 * t + k) (by omega) (by omega)) d5 ?_
  rw [ck (by omega)]
  exact kk
set_option maxHeartbeats 1000000 in
set_option maxRecDepth 100000 in
theorem lc_thread (F : LC p s m args c b L xs t) (ht : t < 512) (hR : Rel t C M) (I : CI D cI cJ cO h (lA s) s s.heap H locs (mW cI cJ hm M ++ oW cJ o g) C) (hl : lv_has ls 8 (lL b h hm o t)) (hc : cells + 2 ≤ room_1.cells) (hs : slots + 27 ≤ room_1.slots) (kk : LK p l e s m args below meth c cells slots Q D cI cJ cO h hm o b t) : W p l e room_1 s m args below meth c H locs cells slots Q (F0 m 132 ls []) := by
  obtain ⟨hx, hb, hml, hown, hts⟩ := id F.1
  have hA : ¬ lA s b := Nat.not_le_of_lt F.2.2.1
  refine lv_aload_n hx hb dL_law_132 rfl (lv_at hl 1 rfl) ?_
  refine l_arg F hA I.2.2.2.1 hl 0 4 rfl rfl 1 (by decide) (by decide) dL_law_133 dL_law_134 dL_law_136 dL_law_137 dL_law_138 ?_
  refine l_arg F hA I.2.2.2.1 hl 0 4 rfl rfl 2 (by decide) (by decide) dL_law_139 dL_law_140 dL_law_142 dL_law_143 dL_law_144 ?_
  refine l_arg F hA I.2.2.2.1 hl 0 4 rfl rfl 3 (by decide) (by decide) dL_law_145 dL_law_146 dL_law_148 dL_law_149 dL_law_150 ?_
  refine lc_i (rest := []) F.1 I (c_X1_thread ((xs (6 * t + 1))) ((xs (6 * t + 2))) ((xs (6 * t + 3))) C _ (sim_thread hR ht ((xs (6 * t + 1))) ((xs (6 * t + 2))) ((xs (6 * t + 3))))) (cwV 3 hts gL_law_X1_thread rfl rfl rfl (by decide +kernel) ⟨Nat.le_of_ble_eq_true rfl, Nat.le_of_ble_eq_true rfl⟩) rfl hl.1 rfl (Nat.le_of_ble_eq_true rfl) dL_law_151 ⟨by omega, by omega⟩ (fun r1 C1 H locs hw I => ?_)
  refine W.widen (k := cells + 2) (n := slots + 27) (by omega) (by omega) ?_
  refine lv_aload_n hx hb dL_law_154 rfl (lv_at hl 2 rfl) ?_
  refine l_arg F hA I.2.2.2.1 hl 0 4 rfl rfl 1 (by decide) (by decide) dL_law_155 dL_law_156 dL_law_158 dL_law_159 dL_law_160 ?_
  refine l_arg F hA I.2.2.2.1 hl 0 4 rfl rfl 2 (by decide) (by decide) dL_law_161 dL_law_162 dL_law_164 dL_law_165 dL_law_166 ?_
  refine l_arg F hA I.2.2.2.1 hl 0 4 rfl rfl 3 (by decide) (by decide) dL_law_167 dL_law_168 dL_law_170 dL_law_171 dL_law_172 ?_
  refine lm_i (rest := [.int r1]) F.1 I (c_X2_thread ((xs (6 * t + 1))) ((xs (6 * t + 2))) ((xs (6 * t + 3))) M _ hw) (cwV 3 hts gL_law_X2_thread rfl rfl rfl (by decide +kernel) ⟨Nat.le_of_ble_eq_true rfl, Nat.le_of_ble_eq_true rfl⟩) rfl hl.1 rfl (Nat.le_of_ble_eq_true rfl) dL_law_173 ⟨hc, hs⟩ (fun r2 M1 H locs hw I => ?_)
  refine lv_icmp_eq (tgt := 981) hx hb dL_law_176 (by decide) (fun _ => ?_) (fun q => absurd hw.1 q)
  exact kk g M1 C1 H locs ls I hw.2 hl
set_option maxHeartbeats 1000000 in
set_option maxRecDepth 100000 in
theorem lc_tag (F : LC p s m args c b L xs t) (ht : t < 512) (hR : Rel t C M) (I : CI D cI cJ cO h (lA s) s s.heap H locs (mW cI cJ hm M ++ oW cJ o g) C) (hl : lv_has ls 8 (lL b h hm o t)) (hc : cells + 2 ≤ room_1.cells) (hs : slots + 27 ≤ room_1.slots) (kk : LK p l e s m args below meth c cells slots Q D cI cJ cO h hm o b t) : W p l e room_1 s m args below meth c H locs cells slots Q (F0 m 181 ls []) := by
  obtain ⟨hx, hb, hml, hown, hts⟩ := id F.1
  have hA : ¬ lA s b := Nat.not_le_of_lt F.2.2.1
  refine lv_aload_n hx hb dL_law_181 rfl (lv_at hl 1 rfl) ?_
  refine l_arg F hA I.2.2.2.1 hl 0 4 rfl rfl 1 (by decide) (by decide) dL_law_182 dL_law_183 dL_law_185 dL_law_186 dL_law_187 ?_
  refine l_arg F hA I.2.2.2.1 hl 0 4 rfl rfl 2 (by decide) (by decide) dL_law_188 dL_law_189 dL_law_191 dL_law_192 dL_law_193 ?_
  refine lc_i (rest := []) F.1 I (c_X1_tag ((xs (6 * t + 1))) ((xs (6 * t + 2))) C _ (sim_tag hR ht ((xs (6 * t + 1))) ((xs (6 * t + 2))))) (cwV 2 hts gL_law_X1_tag rfl rfl rfl (by decide +kernel) ⟨Nat.le_of_ble_eq_true rfl, Nat.le_of_ble_eq_true rfl⟩) rfl hl.1 rfl (Nat.le_of_ble_eq_true rfl) dL_law_194 ⟨by omega, by omega⟩ (fun r1 C1 H locs hw I => ?_)
  refine W.widen (k := cells + 2) (n := slots + 27) (by omega) (by omega) ?_
  refine lv_aload_n hx hb dL_law_197 rfl (lv_at hl 2 rfl) ?_
  refine l_arg F hA I.2.2.2.1 hl 0 4 rfl rfl 1 (by decide) (by decide) dL_law_198 dL_law_199 dL_law_201 dL_law_202 dL_law_203 ?_
  refine l_arg F hA I.2.2.2.1 hl 0 4 rfl rfl 2 (by decide) (by decide) dL_law_204 dL_law_205 dL_law_207 dL_law_208 dL_law_209 ?_
  refine lm_i (rest := [.int r1]) F.1 I (c_X2_tag ((xs (6 * t + 1))) ((xs (6 * t + 2))) M _ hw) (cwV 2 hts gL_law_X2_tag rfl rfl rfl (by decide +kernel) ⟨Nat.le_of_ble_eq_true rfl, Nat.le_of_ble_eq_true rfl⟩) rfl hl.1 rfl (Nat.le_of_ble_eq_true rfl) dL_law_210 ⟨hc, hs⟩ (fun r2 M1 H locs hw I => ?_)
  refine lv_icmp_eq (tgt := 981) hx hb dL_law_213 (by decide) (fun _ => ?_) (fun q => absurd hw.1 q)
  exact kk g M1 C1 H locs ls I hw.2 hl
set_option maxHeartbeats 1000000 in
set_option maxRecDepth 100000 in
theorem lc_share (F : LC p s m args c b L xs t) (ht : t < 512) (hR : Rel t C M) (I : CI D cI cJ cO h (lA s) s s.heap H locs (mW cI cJ hm M ++ oW cJ o g) C) (hl : lv_has ls 8 (lL b h hm o t)) (hc : cells + 2 ≤ room_1.cells) (hs : slots + 27 ≤ room_1.slots) (kk : LK p l e s m args below meth c cells slots Q D cI cJ cO h hm o b t) : W p l e room_1 s m args below meth c H locs cells slots Q (F0 m 218 ls []) := by
  obtain ⟨hx, hb, hml, hown, hts⟩ := id F.1
  have hA : ¬ lA s b := Nat.not_le_of_lt F.2.2.1
  refine lv_aload_n hx hb dL_law_218 rfl (lv_at hl 1 rfl) ?_
  refine l_arg F hA I.2.2.2.1 hl 0 4 rfl rfl 1 (by decide) (by decide) dL_law_219 dL_law_220 dL_law_222 dL_law_223 dL_law_224 ?_
  refine l_arg F hA I.2.2.2.1 hl 0 4 rfl rfl 2 (by decide) (by decide) dL_law_225 dL_law_226 dL_law_228 dL_law_229 dL_law_230 ?_
  refine lc_i (rest := []) F.1 I (c_X1_share ((xs (6 * t + 1))) ((xs (6 * t + 2))) C _ (sim_share hR ((xs (6 * t + 1))) ((xs (6 * t + 2))))) (cwV 2 hts gL_law_X1_share rfl rfl rfl (by decide +kernel) ⟨Nat.le_of_ble_eq_true rfl, Nat.le_of_ble_eq_true rfl⟩) rfl hl.1 rfl (Nat.le_of_ble_eq_true rfl) dL_law_231 ⟨by omega, by omega⟩ (fun r1 C1 H locs hw I => ?_)
  refine W.widen (k := cells + 2) (n := slots + 27) (by omega) (by omega) ?_
  refine lv_aload_n hx hb dL_law_234 rfl (lv_at hl 2 rfl) ?_
  refine l_arg F hA I.2.2.2.1 hl 0 4 rfl rfl 1 (by decide) (by decide) dL_law_235 dL_law_236 dL_law_238 dL_law_239 dL_law_240 ?_
  refine l_arg F hA I.2.2.2.1 hl 0 4 rfl rfl 2 (by decide) (by decide) dL_law_241 dL_law_242 dL_law_244 dL_law_245 dL_law_246 ?_
  refine lm_i (rest := [.int r1]) F.1 I (c_X2_share ((xs (6 * t + 1))) ((xs (6 * t + 2))) M _ hw) (cwV 2 hts gL_law_X2_share rfl rfl rfl (by decide +kernel) ⟨Nat.le_of_ble_eq_true rfl, Nat.le_of_ble_eq_true rfl⟩) rfl hl.1 rfl (Nat.le_of_ble_eq_true rfl) dL_law_247 ⟨hc, hs⟩ (fun r2 M1 H locs hw I => ?_)
  refine lv_icmp_eq (tgt := 981) hx hb dL_law_250 (by decide) (fun _ => ?_) (fun q => absurd hw.1 q)
  exact kk g M1 C1 H locs ls I hw.2 hl
set_option maxHeartbeats 1000000 in
set_option maxRecDepth 100000 in
theorem lc_copy (F : LC p s m args c b L xs t) (ht : t < 512) (hR : Rel t C M) (I : CI D cI cJ cO h (lA s) s s.heap H locs (mW cI cJ hm M ++ oW cJ o g) C) (hl : lv_has ls 8 (lL b h hm o t)) (hc : cells + 2 ≤ room_1.cells) (hs : slots + 27 ≤ room_1.slots) (kk : LK p l e s m args below meth c cells slots Q D cI cJ cO h hm o b t) : W p l e room_1 s m args below meth c H locs cells slots Q (F0 m 255 ls []) := by
  obtain ⟨hx, hb, hml, hown, hts⟩ := id F.1
  have hA : ¬ lA s b := Nat.not_le_of_lt F.2.2.1
  refine lv_aload_n hx hb dL_law_255 rfl (lv_at hl 1 rfl) ?_
  refine l_arg F hA I.2.2.2.1 hl 0 4 rfl rfl 1 (by decide) (by decide) dL_law_256 dL_law_257 dL_law_259 dL_law_260 dL_law_261 ?_
  refine l_arg F hA I.2.2.2.1 hl 0 4 rfl rfl 2 (by decide) (by decide) dL_law_262 dL_law_263 dL_law_265 dL_law_266 dL_law_267 ?_
  refine lc_i (rest := []) F.1 I (c_X1_copy ((xs (6 * t + 1))) ((xs (6 * t + 2))) C _ (sim_copy hR ht ((xs (6 * t + 1))) ((xs (6 * t + 2))))) (cwV 2 hts gL_law_X1_copy rfl rfl rfl (by decide +kernel) ⟨Nat.le_of_ble_eq_true rfl, Nat.le_of_ble_eq_true rfl⟩) rfl hl.1 rfl (Nat.le_of_ble_eq_true rfl) dL_law_268 ⟨by omega, by omega⟩ (fun r1 C1 H locs hw I => ?_)
  refine W.widen (k := cells + 2) (n := slots + 27) (by omega) (by omega) ?_
  refine lv_aload_n hx hb dL_law_271 rfl (lv_at hl 2 rfl) ?_
  refine l_arg F hA I.2.2.2.1 hl 0 4 rfl rfl 1 (by decide) (by decide) dL_law_272 dL_law_273 dL_law_275 dL_law_276 dL_law_277 ?_
  refine l_arg F hA I.2.2.2.1 hl 0 4 rfl rfl 2 (by decide) (by decide) dL_law_278 dL_law_279 dL_law_281 dL_law_282 dL_law_283 ?_
  refine lm_i (rest := [.int r1]) F.1 I (c_X2_copy ((xs (6 * t + 1))) ((xs (6 * t + 2))) M _ hw) (cwV 2 hts gL_law_X2_copy rfl rfl rfl (by decide +kernel) ⟨Nat.le_of_ble_eq_true rfl, Nat.le_of_ble_eq_true rfl⟩) rfl hl.1 rfl (Nat.le_of_ble_eq_true rfl) dL_law_284 ⟨hc, hs⟩ (fun r2 M1 H locs hw I => ?_)
  refine lv_icmp_eq (tgt := 981) hx hb dL_law_287 (by decide) (fun _ => ?_) (fun q => absurd hw.1 q)
  exact kk g M1 C1 H locs ls I hw.2 hl
set_option maxHeartbeats 1000000 in
set_option maxRecDepth 100000 in
theorem lc_clear (F : LC p s m args c b L xs t) (ht : t < 512) (hR : Rel t C M) (I : CI D cI cJ cO h (lA s) s s.heap H locs (mW cI cJ hm M ++ oW cJ o g) C) (hl : lv_has ls 8 (lL b h hm o t)) (hc : cells + 2 ≤ room_1.cells) (hs : slots + 27 ≤ room_1.slots) (kk : LK p l e s m args below meth c cells slots Q D cI cJ cO h hm o b t) : W p l e room_1 s m args below meth c H locs cells slots Q (F0 m 292 ls []) := by
  obtain ⟨hx, hb, hml, hown, hts⟩ := id F.1
  have hA : ¬ lA s b := Nat.not_le_of_lt F.2.2.1
  refine lv_aload_n hx hb dL_law_292 rfl (lv_at hl 1 rfl) ?_
  refine l_arg F hA I.2.2.2.1 hl 0 4 rfl rfl 1 (by decide) (by decide) dL_law_293 dL_law_294 dL_law_296 dL_law_297 dL_law_298 ?_
  refine lc_i (rest := []) F.1 I (c_X1_clear ((xs (6 * t + 1))) C _ (sim_clear hR ((xs (6 * t + 1))))) (cwV 1 hts gL_law_X1_clear rfl rfl rfl (by decide +kernel) ⟨Nat.le_of_ble_eq_true rfl, Nat.le_of_ble_eq_true rfl⟩) rfl hl.1 rfl (Nat.le_of_ble_eq_true rfl) dL_law_299 ⟨by omega, by omega⟩ (fun r1 C1 H locs hw I => ?_)
  refine W.widen (k := cells + 2) (n := slots + 27) (by omega) (by omega) ?_
  refine lv_aload_n hx hb dL_law_302 rfl (lv_at hl 2 rfl) ?_
  refine l_arg F hA I.2.2.2.1 hl 0 4 rfl rfl 1 (by decide) (by decide) dL_law_303 dL_law_304 dL_law_306 dL_law_307 dL_law_308 ?_
  refine lm_i (rest := [.int r1]) F.1 I (c_X2_clear ((xs (6 * t + 1))) M _ hw) (cwV 1 hts gL_law_X2_clear rfl rfl rfl (by decide +kernel) ⟨Nat.le_of_ble_eq_true rfl, Nat.le_of_ble_eq_true rfl⟩) rfl hl.1 rfl (Nat.le_of_ble_eq_true rfl) dL_law_309 ⟨hc, hs⟩ (fun r2 M1 H locs hw I => ?_)
  refine lv_icmp_eq (tgt := 981) hx hb dL_law_312 (by decide) (fun _ => ?_) (fun q => absurd hw.1 q)
  exact kk g M1 C1 H locs ls I hw.2 hl
set_option maxHeartbeats 1000000 in
set_option maxRecDepth 100000 in
theorem lc_put (F : LC p s m args c b L xs t) (ht : t < 512) (hR : Rel t C M) (I : CI D cI cJ cO h (lA s) s s.heap H locs (mW cI cJ hm M ++ oW cJ o g) C) (hl : lv_has ls 8 (lL b h hm o t)) (hc : cells + 2 ≤ room_1.cells) (hs : slots + 27 ≤ room_1.slots) (kk : LK p l e s m args below meth c cells slots Q D cI cJ cO h hm o b t) : W p l e room_1 s m args below meth c H locs cells slots Q (F0 m 317 ls []) := by
  obtain ⟨hx, hb, hml, hown, hts⟩ := id F.1
  have hA : ¬ lA s b := Nat.not_le_of_lt F.2.2.1
  refine lv_aload_n hx hb dL_law_317 rfl (lv_at hl 1 rfl) ?_
  refine l_arg F hA I.2.2.2.1 hl 0 4 rfl rfl 1 (by decide) (by decide) dL_law_318 dL_law_319 dL_law_321 dL_law_322 dL_law_323 ?_
  refine l_arg F hA I.2.2.2.1 hl 0 4 rfl rfl 2 (by decide) (by decide) dL_law_324 dL_law_325 dL_law_327 dL_law_328 dL_law_329 ?_
  refine l_arg F hA I.2.2.2.1 hl 0 4 rfl rfl 3 (by decide) (by decide) dL_law_330 dL_law_331 dL_law_333 dL_law_334 dL_law_335 ?_
  refine lv_i2l hx hb dL_law_336 rfl ?_
  refine lv_bipush (v := (32 : Int32)) hx hb dL_law_337 (by decide) ?_
  refine lv_lshl hx hb dL_law_339 rfl ?_
  refine l_arg F hA I.2.2.2.1 hl 0 4 rfl rfl 4 (by decide) (by decide) dL_law_340 dL_law_341 dL_law_343 dL_law_344 dL_law_345 ?_
  refine lv_i2l hx hb dL_law_346 rfl ?_
  refine lv_ldc2 hx hb hown (hts (.constantLong RL 44 (4294967295)) (by decide +kernel)) dL_law_347 ?_
  refine lv_land hx hb dL_law_350 ?_
  refine lv_lor hx hb dL_law_351 ?_
  refine lc_i (rest := []) F.1 I (c_X1_put ((xs (6 * t + 1))) ((xs (6 * t + 2))) ((((xs (6 * t + 3)).toInt64 <<< (((32 : Int32)).toInt64 &&& 63)) ||| ((xs (6 * t + 4)).toInt64 &&& (4294967295 : Int64)))) C _ (sim_put hR ht ((xs (6 * t + 1))) ((xs (6 * t + 2))) ((((xs (6 * t + 3)).toInt64 <<< (((32 : Int32)).toInt64 &&& 63)) ||| ((xs (6 * t + 4)).toInt64 &&& (4294967295 : Int64)))))) (cwV 3 hts gL_law_X1_put rfl rfl rfl (by decide +kernel) ⟨Nat.le_of_ble_eq_true rfl, Nat.le_of_ble_eq_true rfl⟩) rfl hl.1 rfl (Nat.le_of_ble_eq_true rfl) dL_law_352 ⟨by omega, by omega⟩ (fun r1 C1 H locs hw I => ?_)
  refine W.widen (k := cells + 2) (n := slots + 27) (by omega) (by omega) ?_
  refine lv_aload_n hx hb dL_law_355 rfl (lv_at hl 2 rfl) ?_
  refine l_arg F hA I.2.2.2.1 hl 0 4 rfl rfl 1 (by decide) (by decide) dL_law_356 dL_law_357 dL_law_359 dL_law_360 dL_law_361 ?_
  refine l_arg F hA I.2.2.2.1 hl 0 4 rfl rfl 2 (by decide) (by decide) dL_law_362 dL_law_363 dL_law_365 dL_law_366 dL_law_367 ?_
  refine l_arg F hA I.2.2.2.1 hl 0 4 rfl rfl 3 (by decide) (by decide) dL_law_368 dL_law_369 dL_law_371 dL_law_372 dL_law_373 ?_
  refine lv_i2l hx hb dL_law_374 rfl ?_
  refine lv_bipush (v := (32 : Int32)) hx hb dL_law_375 (by decide) ?_
  refine lv_lshl hx hb dL_law_377 rfl ?_
  refine l_arg F hA I.2.2.2.1 hl 0 4 rfl rfl 4 (by decide) (by decide) dL_law_378 dL_law_379 dL_law_381 dL_law_382 dL_law_383 ?_
  refine lv_i2l hx hb dL_law_384 rfl ?_
  refine lv_ldc2 hx hb hown (hts (.constantLong RL 44 (4294967295)) (by decide +kernel)) dL_law_385 ?_
  refine lv_land hx hb dL_law_388 ?_
  refine lv_lor hx hb dL_law_389 ?_
  refine lm_i (rest := [.int r1]) F.1 I (c_X2_put ((xs (6 * t + 1))) ((xs (6 * t + 2))) ((((xs (6 * t + 3)).toInt64 <<< (((32 : Int32)).toInt64 &&& 63)) ||| ((xs (6 * t + 4)).toInt64 &&& (4294967295 : Int64)))) M _ hw) (cwV 3 hts gL_law_X2_put rfl rfl rfl (by decide +kernel) ⟨Nat.le_of_ble_eq_true rfl, Nat.le_of_ble_eq_true rfl⟩) rfl hl.1 rfl (Nat.le_of_ble_eq_true rfl) dL_law_390 ⟨hc, hs⟩ (fun r2 M1 H locs hw I => ?_)
  refine lv_icmp_eq (tgt := 981) hx hb dL_law_393 (by decide) (fun _ => ?_) (fun q => absurd hw.1 q)
  exact kk g M1 C1 H locs ls I hw.2 hl
set_option maxHeartbeats 1000000 in
set_option maxRecDepth 100000 in
theorem lc_shoot (F : LC p s m args c b L xs t) (ht : t < 512) (hR : Rel t C M) (I : CI D cI cJ cO h (lA s) s s.heap H locs (mW cI cJ hm M ++ oW cJ o g) C) (hl : lv_has ls 8 (lL b h hm o t)) (hc : cells + 2 ≤ room_1.cells) (hs : slots + 27 ≤ room_1.slots) (kk : LK p l e s m args below meth c cells slots Q D cI cJ cO h hm o b t) : W p l e room_1 s m args below meth c H locs cells slots Q (F0 m 398 ls []) := by
  obtain ⟨hx, hb, hml, hown, hts⟩ := id F.1
  have hA : ¬ lA s b := Nat.not_le_of_lt F.2.2.1
  refine lv_aload_n hx hb dL_law_398 rfl (lv_at hl 1 rfl) ?_
  refine l_arg F hA I.2.2.2.1 hl 0 4 rfl rfl 1 (by decide) (by decide) dL_law_399 dL_law_400 dL_law_402 dL_law_403 dL_law_404 ?_
  refine l_arg F hA I.2.2.2.1 hl 0 4 rfl rfl 2 (by decide) (by decide) dL_law_405 dL_law_406 dL_law_408 dL_law_409 dL_law_410 ?_
  refine l_arg F hA I.2.2.2.1 hl 0 4 rfl rfl 3 (by decide) (by decide) dL_law_411 dL_law_412 dL_law_414 dL_law_415 dL_law_416 ?_
  refine l_arg F hA I.2.2.2.1 hl 0 4 rfl rfl 4 (by decide) (by decide) dL_law_417 dL_law_418 dL_law_420 dL_law_421 dL_law_422 ?_
  refine lc_i (rest := []) F.1 I (c_X1_shoot ((xs (6 * t + 1))) ((xs (6 * t + 2))) ((xs (6 * t + 3))) ((xs (6 * t + 4))) C _ (sim_shoot hR ht ((xs (6 * t + 1))) ((xs (6 * t + 2))) ((xs (6 * t + 3))) ((xs (6 * t + 4))))) (cwV 4 hts gL_law_X1_shoot rfl rfl rfl (by decide +kernel) ⟨Nat.le_of_ble_eq_true rfl, Nat.le_of_ble_eq_true rfl⟩) rfl hl.1 rfl (Nat.le_of_ble_eq_true rfl) dL_law_423 ⟨by omega, by omega⟩ (fun r1 C1 H locs hw I => ?_)
  refine W.widen (k := cells + 2) (n := slots + 27) (by omega) (by omega) ?_
  refine lv_aload_n hx hb dL_law_426 rfl (lv_at hl 2 rfl) ?_
  refine l_arg F hA I.2.2.2.1 hl 0 4 rfl rfl 1 (by decide) (by decide) dL_law_427 dL_law_428 dL_law_430 dL_law_431 dL_law_432 ?_
  refine l_arg F hA I.2.2.2.1 hl 0 4 rfl rfl 2 (by decide) (by decide) dL_law_433 dL_law_434 dL_law_436 dL_law_437 dL_law_438 ?_
  refine l_arg F hA I.2.2.2.1 hl 0 4 rfl rfl 3 (by decide) (by decide) dL_law_439 dL_law_440 dL_law_442 dL_law_443 dL_law_444 ?_
  refine l_arg F hA I.2.2.2.1 hl 0 4 rfl rfl 4 (by decide) (by decide) dL_law_445 dL_law_446 dL_law_448 dL_law_449 dL_law_450 ?_
  refine lm_i (rest := [.int r1]) F.1 I (c_X2_shoot ((xs (6 * t + 1))) ((xs (6 * t + 2))) ((xs (6 * t + 3))) ((xs (6 * t + 4))) M _ hw) (cwV 4 hts gL_law_X2_shoot rfl rfl rfl (by decide +kernel) ⟨Nat.le_of_ble_eq_true rfl, Nat.le_of_ble_eq_true rfl⟩) rfl hl.1 rfl (Nat.le_of_ble_eq_true rfl) dL_law_451 ⟨hc, hs⟩ (fun r2 M1 H locs hw I => ?_)
  refine lv_icmp_eq (tgt := 981) hx hb dL_law_454 (by decide) (fun _ => ?_) (fun q => absurd hw.1 q)
  exact kk g M1 C1 H locs ls I hw.2 hl
set_option maxHeartbeats 1000000 in
set_option maxRecDepth 100000 in
theorem lc_splice (F : LC p s m args c b L xs t) (ht : t < 512) (hR : Rel t C M) (I : CI D cI cJ cO h (lA s) s s.heap H locs (mW cI cJ hm M ++ oW cJ o g) C) (hl : lv_has ls 8 (lL b h hm o t)) (hc : cells + 2 ≤ room_1.cells) (hs : slots + 27 ≤ room_1.slots) (kk : LK p l e s m args below meth c cells slots Q D cI cJ cO h hm o b t) : W p l e room_1 s m args below meth c H locs cells slots Q (F0 m 459 ls []) := by
  obtain ⟨hx, hb, hml, hown, hts⟩ := id F.1
  have hA : ¬ lA s b := Nat.not_le_of_lt F.2.2.1
  refine lv_aload_n hx hb dL_law_459 rfl (lv_at hl 1 rfl) ?_
  refine l_arg F hA I.2.2.2.1 hl 0 4 rfl rfl 1 (by decide) (by decide) dL_law_460 dL_law_461 dL_law_463 dL_law_464 dL_law_465 ?_
  refine l_arg F hA I.2.2.2.1 hl 0 4 rfl rfl 2 (by decide) (by decide) dL_law_466 dL_law_467 dL_law_469 dL_law_470 dL_law_471 ?_
  refine l_arg F hA I.2.2.2.1 hl 0 4 rfl rfl 3 (by decide) (by decide) dL_law_472 dL_law_473 dL_law_475 dL_law_476 dL_law_477 ?_
  refine l_arg F hA I.2.2.2.1 hl 0 4 rfl rfl 4 (by decide) (by decide) dL_law_478 dL_law_479 dL_law_481 dL_law_482 dL_law_483 ?_
  refine l_arg F hA I.2.2.2.1 hl 0 4 rfl rfl 5 (by decide) (by decide) dL_law_484 dL_law_485 dL_law_487 dL_law_488 dL_law_489 ?_
  refine lc_i (rest := []) F.1 I (c_X1_splice ((xs (6 * t + 1))) ((xs (6 * t + 2))) ((xs (6 * t + 3))) ((xs (6 * t + 4))) ((xs (6 * t + 5))) C _ (sim_splice hR ht ((xs (6 * t + 1))) ((xs (6 * t + 2))) ((xs (6 * t + 3))) ((xs (6 * t + 4))) ((xs (6 * t + 5))))) (cwV 5 hts gL_law_X1_splice rfl rfl rfl (by decide +kernel) ⟨Nat.le_of_ble_eq_true rfl, Nat.le_of_ble_eq_true rfl⟩) rfl hl.1 rfl (Nat.le_of_ble_eq_true rfl) dL_law_490 ⟨by omega, by omega⟩ (fun r1 C1 H locs hw I => ?_)
  refine W.widen (k := cells + 2) (n := slots + 27) (by omega) (by omega) ?_
  refine lv_aload_n hx hb dL_law_493 rfl (lv_at hl 2 rfl) ?_
  refine l_arg F hA I.2.2.2.1 hl 0 4 rfl rfl 1 (by decide) (by decide) dL_law_494 dL_law_495 dL_law_497 dL_law_498 dL_law_499 ?_
  refine l_arg F hA I.2.2.2.1 hl 0 4 rfl rfl 2 (by decide) (by decide) dL_law_500 dL_law_501 dL_law_503 dL_law_504 dL_law_505 ?_
  refine l_arg F hA I.2.2.2.1 hl 0 4 rfl rfl 3 (by decide) (by decide) dL_law_506 dL_law_507 dL_law_509 dL_law_510 dL_law_511 ?_
  refine l_arg F hA I.2.2.2.1 hl 0 4 rfl rfl 4 (by decide) (by decide) dL_law_512 dL_law_513 dL_law_515 dL_law_516 dL_law_517 ?_
  refine l_arg F hA I.2.2.2.1 hl 0 4 rfl rfl 5 (by decide) (by decide) dL_law_518 dL_law_519 dL_law_521 dL_law_522 dL_law_523 ?_
  refine lm_i (rest := [.int r1]) F.1 I (c_X2_splice ((xs (6 * t + 1))) ((xs (6 * t + 2))) ((xs (6 * t + 3))) ((xs (6 * t + 4))) ((xs (6 * t + 5))) M _ hw) (cwV 5 hts gL_law_X2_splice rfl rfl rfl (by decide +kernel) ⟨Nat.le_of_ble_eq_true rfl, Nat.le_of_ble_eq_true rfl⟩) rfl hl.1 rfl (Nat.le_of_ble_eq_true rfl) dL_law_524 ⟨hc, hs⟩ (fun r2 M1 H locs hw I => ?_)
  refine lv_icmp_eq (tgt := 981) hx hb dL_law_527 (by decide) (fun _ => ?_) (fun q => absurd hw.1 q)
  exact kk g M1 C1 H locs ls I hw.2 hl
set_option maxHeartbeats 1000000 in
set_option maxRecDepth 100000 in
theorem lc_open (F : LC p s m args c b L xs t) (ht : t < 512) (hR : Rel t C M) (I : CI D cI cJ cO h (lA s) s s.heap H locs (mW cI cJ hm M ++ oW cJ o g) C) (hl : lv_has ls 8 (lL b h hm o t)) (hc : cells + 2 ≤ room_1.cells) (hs : slots + 27 ≤ room_1.slots) (kk : LK p l e s m args below meth c cells slots Q D cI cJ cO h hm o b t) : W p l e room_1 s m args below meth c H locs cells slots Q (F0 m 532 ls []) := by
  obtain ⟨hx, hb, hml, hown, hts⟩ := id F.1
  have hA : ¬ lA s b := Nat.not_le_of_lt F.2.2.1
  refine lv_aload_n hx hb dL_law_532 rfl (lv_at hl 1 rfl) ?_
  refine l_arg F hA I.2.2.2.1 hl 0 4 rfl rfl 1 (by decide) (by decide) dL_law_533 dL_law_534 dL_law_536 dL_law_537 dL_law_538 ?_
  refine l_arg F hA I.2.2.2.1 hl 0 4 rfl rfl 2 (by decide) (by decide) dL_law_539 dL_law_540 dL_law_542 dL_law_543 dL_law_544 ?_
  refine l_arg F hA I.2.2.2.1 hl 0 4 rfl rfl 3 (by decide) (by decide) dL_law_545 dL_law_546 dL_law_548 dL_law_549 dL_law_550 ?_
  refine lc_i (rest := []) F.1 I (c_X1_open ((xs (6 * t + 1))) ((xs (6 * t + 2))) ((xs (6 * t + 3))) C _ (sim_open hR ht ((xs (6 * t + 1))) ((xs (6 * t + 2))) ((xs (6 * t + 3))))) (cwV 3 hts gL_law_X1_open rfl rfl rfl (by decide +kernel) ⟨Nat.le_of_ble_eq_true rfl, Nat.le_of_ble_eq_true rfl⟩) rfl hl.1 rfl (Nat.le_of_ble_eq_true rfl) dL_law_551 ⟨by omega, by omega⟩ (fun r1 C1 H locs hw I => ?_)
  refine W.widen (k := cells + 2) (n := slots + 27) (by omega) (by omega) ?_
  refine lv_aload_n hx hb dL_law_554 rfl (lv_at hl 2 rfl) ?_
  refine l_arg F hA I.2.2.2.1 hl 0 4 rfl rfl 1 (by decide) (by decide) dL_law_555 dL_law_556 dL_law_558 dL_law_559 dL_law_560 ?_
  refine l_arg F hA I.2.2.2.1 hl 0 4 rfl rfl 2 (by decide) (by decide) dL_law_561 dL_law_562 dL_law_564 dL_law_565 dL_law_566 ?_
  refine l_arg F hA I.2.2.2.1 hl 0 4 rfl rfl 3 (by decide) (by decide) dL_law_567 dL_law_568 dL_law_570 dL_law_571 dL_law_572 ?_
  refine lm_i (rest := [.int r1]) F.1 I (c_X2_open ((xs (6 * t + 1))) ((xs (6 * t + 2))) ((xs (6 * t + 3))) M _ hw) (cwV 3 hts gL_law_X2_open rfl rfl rfl (by decide +kernel) ⟨Nat.le_of_ble_eq_true rfl, Nat.le_of_ble_eq_true rfl⟩) rfl hl.1 rfl (Nat.le_of_ble_eq_true rfl) dL_law_573 ⟨hc, hs⟩ (fun r2 M1 H locs hw I => ?_)
  refine lv_icmp_eq (tgt := 981) hx hb dL_law_576 (by decide) (fun _ => ?_) (fun q => absurd hw.1 q)
  exact kk g M1 C1 H locs ls I hw.2 hl
set_option maxHeartbeats 1000000 in
set_option maxRecDepth 100000 in
theorem lc_close (F : LC p s m args c b L xs t) (ht : t < 512) (hR : Rel t C M) (I : CI D cI cJ cO h (lA s) s s.heap H locs (mW cI cJ hm M ++ oW cJ o g) C) (hl : lv_has ls 8 (lL b h hm o t)) (hc : cells + 2 ≤ room_1.cells) (hs : slots + 27 ≤ room_1.slots) (kk : LK p l e s m args below meth c cells slots Q D cI cJ cO h hm o b t) : W p l e room_1 s m args below meth c H locs cells slots Q (F0 m 581 ls []) := by
  obtain ⟨hx, hb, hml, hown, hts⟩ := id F.1
  have hA : ¬ lA s b := Nat.not_le_of_lt F.2.2.1
  refine lv_aload_n hx hb dL_law_581 rfl (lv_at hl 1 rfl) ?_
  refine l_arg F hA I.2.2.2.1 hl 0 4 rfl rfl 1 (by decide) (by decide) dL_law_582 dL_law_583 dL_law_585 dL_law_586 dL_law_587 ?_
  refine l_arg F hA I.2.2.2.1 hl 0 4 rfl rfl 2 (by decide) (by decide) dL_law_588 dL_law_589 dL_law_591 dL_law_592 dL_law_593 ?_
  refine l_arg F hA I.2.2.2.1 hl 0 4 rfl rfl 3 (by decide) (by decide) dL_law_594 dL_law_595 dL_law_597 dL_law_598 dL_law_599 ?_
  refine lc_i (rest := []) F.1 I (c_X1_close ((xs (6 * t + 1))) ((xs (6 * t + 2))) ((xs (6 * t + 3))) C _ (sim_close hR ht ((xs (6 * t + 1))) ((xs (6 * t + 2))) ((xs (6 * t + 3))))) (cwV 3 hts gL_law_X1_close rfl rfl rfl (by decide +kernel) ⟨Nat.le_of_ble_eq_true rfl, Nat.le_of_ble_eq_true rfl⟩) rfl hl.1 rfl (Nat.le_of_ble_eq_true rfl) dL_law_600 ⟨by omega, by omega⟩ (fun r1 C1 H locs hw I => ?_)
  refine W.widen (k := cells + 2) (n := slots + 27) (by omega) (by omega) ?_
  refine lv_aload_n hx hb dL_law_603 rfl (lv_at hl 2 rfl) ?_
  refine l_arg F hA I.2.2.2.1 hl 0 4 rfl rfl 1 (by decide) (by decide) dL_law_604 dL_law_605 dL_law_607 dL_law_608 dL_law_609 ?_
  refine l_arg F hA I.2.2.2.1 hl 0 4 rfl rfl 2 (by decide) (by decide) dL_law_610 dL_law_611 dL_law_613 dL_law_614 dL_law_615 ?_
  refine l_arg F hA I.2.2.2.1 hl 0 4 rfl rfl 3 (by decide) (by decide) dL_law_616 dL_law_617 dL_law_619 dL_law_620 dL_law_621 ?_
  refine lm_i (rest := [.int r1]) F.1 I (c_X2_close ((xs (6 * t + 1))) ((xs (6 * t + 2))) ((xs (6 * t + 3))) M _ hw) (cwV 3 hts gL_law_X2_close rfl rfl rfl (by decide +kernel) ⟨Nat.le_of_ble_eq_true rfl, Nat.le_of_ble_eq_true rfl⟩) rfl hl.1 rfl (Nat.le_of_ble_eq_true rfl) dL_law_622 ⟨hc, hs⟩ (fun r2 M1 H locs hw I => ?_)
  refine lv_icmp_eq (tgt := 981) hx hb dL_law_625 (by decide) (fun _ => ?_) (fun q => absurd hw.1 q)
  exact kk g M1 C1 H locs ls I hw.2 hl
set_option maxHeartbeats 1000000 in
set_option maxRecDepth 100000 in
theorem lc_loop (F : LC p s m args c b L xs t) (ht : t < 512) (hR : Rel t C M) (I : CI D cI cJ cO h (lA s) s s.heap H locs (mW cI cJ hm M ++ oW cJ o g) C) (hl : lv_has ls 8 (lL b h hm o t)) (hc : cells + 2 ≤ room_1.cells) (hs : slots + 27 ≤ room_1.slots) (kk : LK p l e s m args below meth c cells slots Q D cI cJ cO h hm o b t) : W p l e room_1 s m args below meth c H locs cells slots Q (F0 m 630 ls []) := by
  obtain ⟨hx, hb, hml, hown, hts⟩ := id F.1
  have hA : ¬ lA s b := Nat.not_le_of_lt F.2.2.1
  refine lv_aload_n hx hb dL_law_630 rfl (lv_at hl 1 rfl) ?_
  refine l_arg F hA I.2.2.2.1 hl 0 4 rfl rfl 1 (by decide) (by decide) dL_law_631 dL_law_632 dL_law_634 dL_law_635 dL_law_636 ?_
  refine l_arg F hA I.2.2.2.1 hl 0 4 rfl rfl 2 (by decide) (by decide) dL_law_637 dL_law_638 dL_law_640 dL_law_641 dL_law_642 ?_
  refine l_arg F hA I.2.2.2.1 hl 0 4 rfl rfl 3 (by decide) (by decide) dL_law_643 dL_law_644 dL_law_646 dL_law_647 dL_law_648 ?_
  refine l_arg F hA I.2.2.2.1 hl 0 4 rfl rfl 4 (by decide) (by decide) dL_law_649 dL_law_650 dL_law_652 dL_law_653 dL_law_654 ?_
  refine lc_i (rest := []) F.1 I (c_X1_loop ((xs (6 * t + 1))) ((xs (6 * t + 2))) ((xs (6 * t + 3))) ((xs (6 * t + 4))) C _ (sim_loop hR ht ((xs (6 * t + 1))) ((xs (6 * t + 2))) ((xs (6 * t + 3))) ((xs (6 * t + 4))))) (cwV 4 hts gL_law_X1_loop rfl rfl rfl (by decide +kernel) ⟨Nat.le_of_ble_eq_true rfl, Nat.le_of_ble_eq_true rfl⟩) rfl hl.1 rfl (Nat.le_of_ble_eq_true rfl) dL_law_655 ⟨by omega, by omega⟩ (fun r1 C1 H locs hw I => ?_)
  refine W.widen (k := cells + 2) (n := slots + 27) (by omega) (by omega) ?_
  refine lv_aload_n hx hb dL_law_658 rfl (lv_at hl 2 rfl) ?_
  refine l_arg F hA I.2.2.2.1 hl 0 4 rfl rfl 1 (by decide) (by decide) dL_law_659 dL_law_660 dL_law_662 dL_law_663 dL_law_664 ?_
  refine l_arg F hA I.2.2.2.1 hl 0 4 rfl rfl 2 (by decide) (by decide) dL_law_665 dL_law_666 dL_law_668 dL_law_669 dL_law_670 ?_
  refine l_arg F hA I.2.2.2.1 hl 0 4 rfl rfl 3 (by decide) (by decide) dL_law_671 dL_law_672 dL_law_674 dL_law_675 dL_law_676 ?_
  refine l_arg F hA I.2.2.2.1 hl 0 4 rfl rfl 4 (by decide) (by decide) dL_law_677 dL_law_678 dL_law_680 dL_law_681 dL_law_682 ?_
  refine lm_i (rest := [.int r1]) F.1 I (c_X2_loop ((xs (6 * t + 1))) ((xs (6 * t + 2))) ((xs (6 * t + 3))) ((xs (6 * t + 4))) M _ hw) (cwV 4 hts gL_law_X2_loop rfl rfl rfl (by decide +kernel) ⟨Nat.le_of_ble_eq_true rfl, Nat.le_of_ble_eq_true rfl⟩) rfl hl.1 rfl (Nat.le_of_ble_eq_true rfl) dL_law_683 ⟨hc, hs⟩ (fun r2 M1 H locs hw I => ?_)
  refine lv_icmp_eq (tgt := 981) hx hb dL_law_686 (by decide) (fun _ => ?_) (fun q => absurd hw.1 q)
  exact kk g M1 C1 H locs ls I hw.2 hl
set_option maxHeartbeats 1000000 in
set_option maxRecDepth 100000 in
theorem lc_note (F : LC p s m args c b L xs t) (ht : t < 512) (hR : Rel t C M) (I : CI D cI cJ cO h (lA s) s s.heap H locs (mW cI cJ hm M ++ oW cJ o g) C) (hl : lv_has ls 8 (lL b h hm o t)) (hc : cells + 2 ≤ room_1.cells) (hs : slots + 27 ≤ room_1.slots) (kk : LK p l e s m args below meth c cells slots Q D cI cJ cO h hm o b t) : W p l e room_1 s m args below meth c H locs cells slots Q (F0 m 691 ls []) := by
  obtain ⟨hx, hb, hml, hown, hts⟩ := id F.1
  have hA : ¬ lA s b := Nat.not_le_of_lt F.2.2.1
  refine lv_aload_n hx hb dL_law_691 rfl (lv_at hl 1 rfl) ?_
  refine l_arg F hA I.2.2.2.1 hl 0 4 rfl rfl 1 (by decide) (by decide) dL_law_692 dL_law_693 dL_law_695 dL_law_696 dL_law_697 ?_
  refine l_arg F hA I.2.2.2.1 hl 0 4 rfl rfl 2 (by decide) (by decide) dL_law_698 dL_law_699 dL_law_701 dL_law_702 dL_law_703 ?_
  refine l_arg F hA I.2.2.2.1 hl 0 4 rfl rfl 3 (by decide) (by decide) dL_law_704 dL_law_705 dL_law_707 dL_law_708 dL_law_709 ?_
  refine l_arg F hA I.2.2.2.1 hl 0 4 rfl rfl 4 (by decide) (by decide) dL_law_710 dL_law_711 dL_law_713 dL_law_714 dL_law_715 ?_
  refine l_arg F hA I.2.2.2.1 hl 0 4 rfl rfl 5 (by decide) (by decide) dL_law_716 dL_law_717 dL_law_719 dL_law_720 dL_law_721 ?_
  refine lc_i (rest := []) F.1 I (c_X1_note ((xs (6 * t + 1))) ((xs (6 * t + 2))) ((xs (6 * t + 3))) ((xs (6 * t + 4))) ((xs (6 * t + 5))) C _ (sim_note hR ((xs (6 * t + 1))) ((xs (6 * t + 2))) ((xs (6 * t + 3))) ((xs (6 * t + 4))) ((xs (6 * t + 5))))) (cwV 5 hts gL_law_X1_note rfl rfl rfl (by decide +kernel) ⟨Nat.le_of_ble_eq_true rfl, Nat.le_of_ble_eq_true rfl⟩) rfl hl.1 rfl (Nat.le_of_ble_eq_true rfl) dL_law_722 ⟨by omega, by omega⟩ (fun r1 C1 H locs hw I => ?_)
  refine W.widen (k := cells + 2) (n := slots + 27) (by omega) (by omega) ?_
  refine lv_aload_n hx hb dL_law_725 rfl (lv_at hl 2 rfl) ?_
  refine l_arg F hA I.2.2.2.1 hl 0 4 rfl rfl 1 (by decide) (by decide) dL_law_726 dL_law_727 dL_law_729 dL_law_730 dL_law_731 ?_
  refine l_arg F hA I.2.2.2.1 hl 0 4 rfl rfl 2 (by decide) (by decide) dL_law_732 dL_law_733 dL_law_735 dL_law_736 dL_law_737 ?_
  refine l_arg F hA I.2.2.2.1 hl 0 4 rfl rfl 3 (by decide) (by decide) dL_law_738 dL_law_739 dL_law_741 dL_law_742 dL_law_743 ?_
  refine l_arg F hA I.2.2.2.1 hl 0 4 rfl rfl 4 (by decide) (by decide) dL_law_744 dL_law_745 dL_law_747 dL_law_748 dL_law_749 ?_
  refine l_arg F hA I.2.2.2.1 hl 0 4 rfl rfl 5 (by decide) (by decide) dL_law_750 dL_law_751 dL_law_753 dL_law_754 dL_law_755 ?_
  refine lm_i (rest := [.int r1]) F.1 I (c_X2_note ((xs (6 * t + 1))) ((xs (6 * t + 2))) ((xs (6 * t + 3))) ((xs (6 * t + 4))) ((xs (6 * t + 5))) M _ hw) (cwV 5 hts gL_law_X2_note rfl rfl rfl (by decide +kernel) ⟨Nat.le_of_ble_eq_true rfl, Nat.le_of_ble_eq_true rfl⟩) rfl hl.1 rfl (Nat.le_of_ble_eq_true rfl) dL_law_756 ⟨hc, hs⟩ (fun r2 M1 H locs hw I => ?_)
  refine lv_icmp_eq (tgt := 981) hx hb dL_law_759 (by decide) (fun _ => ?_) (fun q => absurd hw.1 q)
  exact kk g M1 C1 H locs ls I hw.2 hl
set_option maxHeartbeats 1000000 in
set_option maxRecDepth 100000 in
theorem lc_play (F : LC p s m args c b L xs t) (ht : t < 512) (hR : Rel t C M) (I : CI D cI cJ cO h (lA s) s s.heap H locs (mW cI cJ hm M ++ oW cJ o g) C) (hl : lv_has ls 8 (lL b h hm o t)) (hc : cells + 2 ≤ room_1.cells) (hs : slots + 27 ≤ room_1.slots) (kk : LK p l e s m args below meth c cells slots Q D cI cJ cO h hm o b t) : W p l e room_1 s m args below meth c H locs cells slots Q (F0 m 764 ls []) := by
  obtain ⟨hx, hb, hml, hown, hts⟩ := id F.1
  have hA : ¬ lA s b := Nat.not_le_of_lt F.2.2.1
  refine lv_aload_n hx hb dL_law_764 rfl (lv_at hl 1 rfl) ?_
  refine lc_i (rest := []) F.1 I (c_X1_play  C _ (sim_play hR ht )) (cwV 0 hts gL_law_X1_play rfl rfl rfl (by decide +kernel) ⟨Nat.le_of_ble_eq_true rfl, Nat.le_of_ble_eq_true rfl⟩) rfl hl.1 rfl (Nat.le_of_ble_eq_true rfl) dL_law_765 ⟨by omega, by omega⟩ (fun r1 C1 H locs hw I => ?_)
  refine W.widen (k := cells + 2) (n := slots + 27) (by omega) (by omega) ?_
  refine lv_aload_n hx hb dL_law_768 rfl (lv_at hl 2 rfl) ?_
  refine lm_i (rest := [.int r1]) F.1 I (c_X2_play  M _ hw) (cwV 0 hts gL_law_X2_play rfl rfl rfl (by decide +kernel) ⟨Nat.le_of_ble_eq_true rfl, Nat.le_of_ble_eq_true rfl⟩) rfl hl.1 rfl (Nat.le_of_ble_eq_true rfl) dL_law_769 ⟨hc, hs⟩ (fun r2 M1 H locs hw I => ?_)
  refine lv_icmp_eq (tgt := 981) hx hb dL_law_772 (by decide) (fun _ => ?_) (fun q => absurd hw.1 q)
  exact kk g M1 C1 H locs ls I hw.2 hl
set_option maxHeartbeats 1000000 in
set_option maxRecDepth 100000 in
theorem lc_takeBack (F : LC p s m args c b L xs t) (ht : t < 512) (hR : Rel t C M) (I : CI D cI cJ cO h (lA s) s s.heap H locs (mW cI cJ hm M ++ oW cJ o g) C) (hl : lv_has ls 8 (lL b h hm o t)) (hc : cells + 2 ≤ room_1.cells) (hs : slots + 27 ≤ room_1.slots) (kk : LK p l e s m args below meth c cells slots Q D cI cJ cO h hm o b t) : W p l e room_1 s m args below meth c H locs cells slots Q (F0 m 777 ls []) := by
  obtain ⟨hx, hb, hml, hown, hts⟩ := id F.1
  have hA : ¬ lA s b := Nat.not_le_of_lt F.2.2.1
  refine lv_aload_n hx hb dL_law_777 rfl (lv_at hl 1 rfl) ?_
  refine lc_i (rest := []) F.1 I (c_X1_takeBack  C _ (sim_takeBack hR ht )) (cwV 0 hts gL_law_X1_takeBack rfl rfl rfl (by decide +kernel) ⟨Nat.le_of_ble_eq_true rfl, Nat.le_of_ble_eq_true rfl⟩) rfl hl.1 rfl (Nat.le_of_ble_eq_true rfl) dL_law_778 ⟨by omega, by omega⟩ (fun r1 C1 H locs hw I => ?_)
  refine W.widen (k := cells + 2) (n := slots + 27) (by omega) (by omega) ?_
  refine lv_aload_n hx hb dL_law_781 rfl (lv_at hl 2 rfl) ?_
  refine lm_i (rest := [.int r1]) F.1 I (c_X2_takeBack  M _ hw) (cwV 0 hts gL_law_X2_takeBack rfl rfl rfl (by decide +kernel) ⟨Nat.le_of_ble_eq_true rfl, Nat.le_of_ble_eq_true rfl⟩) rfl hl.1 rfl (Nat.le_of_ble_eq_true rfl) dL_law_782 ⟨hc, hs⟩ (fun r2 M1 H locs hw I => ?_)
  refine lv_icmp_eq (tgt := 981) hx hb dL_law_785 (by decide) (fun _ => ?_) (fun q => absurd hw.1 q)
  exact kk g M1 C1 H locs ls I hw.2 hl
set_option maxHeartbeats 1000000 in
set_option maxRecDepth 100000 in
theorem lc_refusal (F : LC p s m args c b L xs t) (ht : t < 512) (hR : Rel t C M) (I : CI D cI cJ cO h (lA s) s s.heap H locs (mW cI cJ hm M ++ oW cJ o g) C) (hl : lv_has ls 8 (lL b h hm o t)) (hc : cells + 2 ≤ room_1.cells) (hs : slots + 27 ≤ room_1.slots) (kk : LK p l e s m args below meth c cells slots Q D cI cJ cO h hm o b t) : W p l e room_1 s m args below meth c H locs cells slots Q (F0 m 790 ls []) := by
  obtain ⟨hx, hb, hml, hown, hts⟩ := id F.1
  have hA : ¬ lA s b := Nat.not_le_of_lt F.2.2.1
  refine lv_aload_n hx hb dL_law_790 rfl (lv_at hl 1 rfl) ?_
  refine l_arg F hA I.2.2.2.1 hl 0 4 rfl rfl 1 (by decide) (by decide) dL_law_791 dL_law_792 dL_law_794 dL_law_795 dL_law_796 ?_
  refine lc_i (rest := []) F.1 I (c_X1_refusal ((xs (6 * t + 1))) C _ (sim_refusal hR ((xs (6 * t + 1))))) (cwV 1 hts gL_law_X1_refusal rfl rfl rfl (by decide +kernel) ⟨Nat.le_of_ble_eq_true rfl, Nat.le_of_ble_eq_true rfl⟩) rfl hl.1 rfl (Nat.le_of_ble_eq_true rfl) dL_law_797 ⟨by omega, by omega⟩ (fun r1 C1 H locs hw I => ?_)
  refine W.widen (k := cells + 2) (n := slots + 27) (by omega) (by omega) ?_
  refine lv_aload_n hx hb dL_law_800 rfl (lv_at hl 2 rfl) ?_
  refine l_arg F hA I.2.2.2.1 hl 0 4 rfl rfl 1 (by decide) (by decide) dL_law_801 dL_law_802 dL_law_804 dL_law_805 dL_law_806 ?_
  refine lm_i (rest := [.int r1]) F.1 I (c_X2_refusal ((xs (6 * t + 1))) M _ hw) (cwV 1 hts gL_law_X2_refusal rfl rfl rfl (by decide +kernel) ⟨Nat.le_of_ble_eq_true rfl, Nat.le_of_ble_eq_true rfl⟩) rfl hl.1 rfl (Nat.le_of_ble_eq_true rfl) dL_law_807 ⟨hc, hs⟩ (fun r2 M1 H locs hw I => ?_)
  refine lv_icmp_eq (tgt := 981) hx hb dL_law_810 (by decide) (fun _ => ?_) (fun q => absurd hw.1 q)
  exact kk g M1 C1 H locs ls I hw.2 hl
set_option maxHeartbeats 1000000 in
set_option maxRecDepth 100000 in
theorem lc_look (F : LC p s m args c b L xs t) (ht : t < 512) (hR : Rel t C M) (I : CI D cI cJ cO h (lA s) s s.heap H locs (mW cI cJ hm M ++ oW cJ o g) C) (hl : lv_has ls 8 (lL b h hm o t)) (hc : cells + 2 ≤ room_1.cells) (hs : slots + 27 ≤ room_1.slots) (kk : LK p l e s m args below meth c cells slots Q D cI cJ cO h hm o b t) : W p l e room_1 s m args below meth c H locs cells slots Q (F0 m 815 ls []) := by
  obtain ⟨hx, hb, hml, hown, hts⟩ := id F.1
  have hA : ¬ lA s b := Nat.not_le_of_lt F.2.2.1
  refine lv_aload_n hx hb dL_law_815 rfl (lv_at hl 1 rfl) ?_
  refine l_arg F hA I.2.2.2.1 hl 0 4 rfl rfl 1 (by decide) (by decide) dL_law_816 dL_law_817 dL_law_819 dL_law_820 dL_law_821 ?_
  refine l_arg F hA I.2.2.2.1 hl 0 4 rfl rfl 2 (by decide) (by decide) dL_law_822 dL_law_823 dL_law_825 dL_law_826 dL_law_827 ?_
  refine lc_i (rest := []) F.1 I (c_X1_look ((xs (6 * t + 1))) ((xs (6 * t + 2))) C _ (sim_look hR ht ((xs (6 * t + 1))) ((xs (6 * t + 2))))) (cwV 2 hts gL_law_X1_look rfl rfl rfl (by decide +kernel) ⟨Nat.le_of_ble_eq_true rfl, Nat.le_of_ble_eq_true rfl⟩) rfl hl.1 rfl (Nat.le_of_ble_eq_true rfl) dL_law_828 ⟨by omega, by omega⟩ (fun r1 C1 H locs hw I => ?_)
  refine W.widen (k := cells + 2) (n := slots + 27) (by omega) (by omega) ?_
  refine lv_aload_n hx hb dL_law_831 rfl (lv_at hl 2 rfl) ?_
  refine l_arg F hA I.2.2.2.1 hl 0 4 rfl rfl 1 (by decide) (by decide) dL_law_832 dL_law_833 dL_law_835 dL_law_836 dL_law_837 ?_
  refine l_arg F hA I.2.2.2.1 hl 0 4 rfl rfl 2 (by decide) (by decide) dL_law_838 dL_law_839 dL_law_841 dL_law_842 dL_law_843 ?_
  refine lm_i (rest := [.int r1]) F.1 I (c_X2_look ((xs (6 * t + 1))) ((xs (6 * t + 2))) M _ hw) (cwV 2 hts gL_law_X2_look rfl rfl rfl (by decide +kernel) ⟨Nat.le_of_ble_eq_true rfl, Nat.le_of_ble_eq_true rfl⟩) rfl hl.1 rfl (Nat.le_of_ble_eq_true rfl) dL_law_844 ⟨hc, hs⟩ (fun r2 M1 H locs hw I => ?_)
  refine lv_icmp_eq (tgt := 981) hx hb dL_law_847 (by decide) (fun _ => ?_) (fun q => absurd hw.1 q)
  exact kk g M1 C1 H locs ls I hw.2 hl
set_option maxHeartbeats 1000000 in
set_option maxRecDepth 100000 in
theorem lc_alike (F : LC p s m args c b L xs t) (ht : t < 512) (hR : Rel t C M) (I : CI D cI cJ cO h (lA s) s s.heap H locs (mW cI cJ hm M ++ oW cJ o g) C) (hl : lv_has ls 8 (lL b h hm o t)) (hc : cells + 2 ≤ room_1.cells) (hs : slots + 27 ≤ room_1.slots) (kk : LK p l e s m args below meth c cells slots Q D cI cJ cO h hm o b t) : W p l e room_1 s m args below meth c H locs cells slots Q (F0 m 919 ls []) := by
  obtain ⟨hx, hb, hml, hown, hts⟩ := id F.1
  have hA : ¬ lA s b := Nat.not_le_of_lt F.2.2.1
  refine lv_aload_n hx hb dL_law_919 rfl (lv_at hl 1 rfl) ?_
  refine l_arg F hA I.2.2.2.1 hl 0 4 rfl rfl 1 (by decide) (by decide) dL_law_920 dL_law_921 dL_law_923 dL_law_924 dL_law_925 ?_
  refine l_arg F hA I.2.2.2.1 hl 0 4 rfl rfl 2 (by decide) (by decide) dL_law_926 dL_law_927 dL_law_929 dL_law_930 dL_law_931 ?_
  refine lc_i (rest := []) F.1 I (c_X1_alike ((xs (6 * t + 1))) ((xs (6 * t + 2))) C _ (sim_alike hR ht ((xs (6 * t + 1))) ((xs (6 * t + 2))))) (cwV 2 hts gL_law_X1_alike rfl rfl rfl (by decide +kernel) ⟨Nat.le_of_ble_eq_true rfl, Nat.le_of_ble_eq_true rfl⟩) rfl hl.1 rfl (Nat.le_of_ble_eq_true rfl) dL_law_932 ⟨by omega, by omega⟩ (fun r1 C1 H locs hw I => ?_)
  refine W.widen (k := cells + 2) (n := slots + 27) (by omega) (by omega) ?_
  refine lv_aload_n hx hb dL_law_935 rfl (lv_at hl 2 rfl) ?_
  refine l_arg F hA I.2.2.2.1 hl 0 4 rfl rfl 1 (by decide) (by decide) dL_law_936 dL_law_937 dL_law_939 dL_law_940 dL_law_941 ?_
  refine l_arg F hA I.2.2.2.1 hl 0 4 rfl rfl 2 (by decide) (by decide) dL_law_942 dL_law_943 dL_law_945 dL_law_946 dL_law_947 ?_
  refine lm_i (rest := [.int r1]) F.1 I (c_X2_alike ((xs (6 * t + 1))) ((xs (6 * t + 2))) M _ hw) (cwV 2 hts gL_law_X2_alike rfl rfl rfl (by decide +kernel) ⟨Nat.le_of_ble_eq_true rfl, Nat.le_of_ble_eq_true rfl⟩) rfl hl.1 rfl (Nat.le_of_ble_eq_true rfl) dL_law_948 ⟨hc, hs⟩ (fun r2 M1 H locs hw I => ?_)
  refine lv_icmp_eq (tgt := 981) hx hb dL_law_951 (by decide) (fun _ => ?_) (fun q => absurd hw.1 q)
  exact kk g M1 C1 H locs ls I hw.2 hl
set_option maxHeartbeats 1000000 in
set_option maxRecDepth 100000 in
theorem lc_count (F : LC p s m args c b L xs t) (ht : t < 512) (hR : Rel t C M) (I : CI D cI cJ cO h (lA s) s s.heap H locs (mW cI cJ hm M ++ oW cJ o g) C) (hl : lv_has ls 8 (lL b h hm o t)) (hc : cells + 2 ≤ room_1.cells) (hs : slots + 27 ≤ room_1.slots) (kk : LK p l e s m args below meth c cells slots Q D cI cJ cO h hm o b t) : W p l e room_1 s m args below meth c H locs cells slots Q (F0 m 956 ls []) := by
  obtain ⟨hx, hb, hml, hown, hts⟩ := id F.1
  have hA : ¬ lA s b := Nat.not_le_of_lt F.2.2.1
  refine lv_aload_n hx hb dL_law_956 rfl (lv_at hl 1 rfl) ?_
  refine l_arg F hA I.2.2.2.1 hl 0 4 rfl rfl 1 (by decide) (by decide) dL_law_957 dL_law_958 dL_law_960 dL_law_961 dL_law_962 ?_
  refine lc_i (rest := []) F.1 I (c_X1_count ((xs (6 * t + 1))) C _ (sim_count hR ((xs (6 * t + 1))))) (cwV 1 hts gL_law_X1_count rfl rfl rfl (by decide +kernel) ⟨Nat.le_of_ble_eq_true rfl, Nat.le_of_ble_eq_true rfl⟩) rfl hl.1 rfl (Nat.le_of_ble_eq_true rfl) dL_law_963 ⟨by omega, by omega⟩ (fun r1 C1 H locs hw I => ?_)
  refine W.widen (k := cells + 2) (n := slots + 27) (by omega) (by omega) ?_
  refine lv_aload_n hx hb dL_law_966 rfl (lv_at hl 2 rfl) ?_
  refine l_arg F hA I.2.2.2.1 hl 0 4 rfl rfl 1 (by decide) (by decide) dL_law_967 dL_law_968 dL_law_970 dL_law_971 dL_law_972 ?_
  refine lm_i (rest := [.int r1]) F.1 I (c_X2_count ((xs (6 * t + 1))) M _ hw) (cwV 1 hts gL_law_X2_count rfl rfl rfl (by decide +kernel) ⟨Nat.le_of_ble_eq_true rfl, Nat.le_of_ble_eq_true rfl⟩) rfl hl.1 rfl (Nat.le_of_ble_eq_true rfl) dL_law_973 ⟨hc, hs⟩ (fun r2 M1 H locs hw I => ?_)
  refine lv_icmp_eq (tgt := 981) hx hb dL_law_976 (by decide) (fun _ => ?_) (fun q => absurd hw.1 q)
  exact kk g M1 C1 H locs ls I hw.2 hl
end LawCases
