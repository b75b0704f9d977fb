def jLw (g : gX) (b L : Nat) (xs : Nat → Int32) : MD := (RL, yL_law, cL_law, 4, ret, room_1, fun s args => args = #[.ref b] ∧ va_X b L xs s s.heap ∧ b < s.heap.size ∧ ∀ k, k < 73 → s.heap.size ≤ g.2.1 k)
section
variable {g : gX} {b L : Nat} {xs : Nat → Int32} {Qf : List Frame → Array Value → State → State → Prop} {V : vM} {pc : Nat} {lv : List (Nat × Value)} {st : List Value}
theorem gA_b {s : State} (h1 : b < s.heap.size) (h2 : ∀ k, k < 73 → s.heap.size ≤ g.2.1 k) : ¬ gA g b := by
  rintro ⟨k, hk, e⟩
  have := h2 k hk
  omega
theorem x_slen (hd : decode (jLw g b L xs).2.2.1 pc = .ok (.arraylength, 1)) (k : YY g (jLw g b L xs) Qf V (pc + 1) lv (.int (nI L) :: st)) : YY g (jLw g b L xs) Qf V pc lv (.ref b :: st) := by
  intro p e s m args below meth c H locs ls E hP hS hl
  obtain ⟨ha, hX, hb, hg⟩ := E.2.2.2.2.2.2.2.2.2.2
  exact va_slen E.1 E.2.1 hX hb (gA_b hb hg) hS hd (k p e s m args below meth c H locs ls E hP hS hl)
theorem x_sld {i : Int32} (hin : vp_in i L) (hd : decode (jLw g b L xs).2.2.1 pc = .ok (.iaload, 1)) (k : YY g (jLw g b L xs) Qf V (pc + 1) lv (.int (xs i.toNatClampNeg) :: st)) : YY g (jLw g b L xs) Qf V pc lv (.int i :: .ref b :: st) := by
  intro p e s m args below meth c H locs ls E hP hS hl
  obtain ⟨ha, hX, hb, hg⟩ := E.2.2.2.2.2.2.2.2.2.2
  exact va_sld E.1 E.2.1 hX hb (gA_b hb hg) hS hin hd (k p e s m args below meth c H locs ls E hP hS hl)
end
abbrev lvL (g : gX) (b i : Nat) : List (Nat × Value) := [(3, .int (nI i)), (0, .ref b), (1, .ref (g.2.1 0)), (2, .ref (g.2.1 49))]
set_option maxRecDepth 100000 in
set_option maxHeartbeats 1000000 in
theorem lw_c0 {g : gX} {b L : Nat} {xs : Nat → Int32} {Qf : List Frame → Array Value → State → State → Prop} {V : vM} {i : Nat} (hi : i + 7 ≤ L) (hL : L ≤ 3584) (hR : RR V) (kk : ∀ W, RR W → YY g (jLw g b L xs) Qf W 1335 (lvL g b i) []) : YY g (jLw g b L xs) Qf V 192 (lvL g b i) [] := by
  refine x_aload_n dL_law_192 2 rfl ?_
  refine x_aload_n dL_law_193 1 rfl ?_
  refine x_iload_n dL_law_194 0 rfl ?_
  refine x_iconst (v := 1) dL_law_195 (by decide) ?_
  refine x_iadd dL_law_196 ?_
  refine x_topi (y := nI (i + 1)) (nadd rfl (b := 1) rfl) ?_
  refine x_sld (vp_in_nI (by omega) (by omega)) dL_law_197 ?_
  refine x_aload_n dL_law_198 1 rfl ?_
  refine x_iload_n dL_law_199 0 rfl ?_
  refine x_iconst (v := 2) dL_law_200 (by decide) ?_
  refine x_iadd dL_law_201 ?_
  refine x_topi (y := nI (i + 2)) (nadd rfl (b := 2) rfl) ?_
  refine x_sld (vp_in_nI (by omega) (by omega)) dL_law_202 ?_
  obtain ⟨Q, hM, hk⟩ := pr_move (g := g) hR (xs (nI (i + 1)).toNatClampNeg) (xs (nI (i + 2)).toNatClampNeg)
  refine x_callV (K := jX9_move) [.int (xs (nI (i + 1)).toNatClampNeg), .int (xs (nI (i + 2)).toNatClampNeg)] lk_L_13 ⟨⟨rfl, rfl⟩, Nat.le_of_ble_eq_true rfl, Nat.le_of_ble_eq_true rfl⟩ rfl rfl hM rfl (Nat.le_of_ble_eq_true rfl) rfl dL_law_203 (fun r U hQ => ?_)
  obtain ⟨z, rfl, Q2, hM2, hk2⟩ := hk r U hQ
  show YY g (jLw g b L xs) Qf U 206 (lvL g b i) [.int z]
  refine x_aload_n dL_law_206 3 rfl ?_
  refine x_aload_n dL_law_207 1 rfl ?_
  refine x_iload_n dL_law_208 0 rfl ?_
  refine x_iconst (v := 1) dL_law_209 (by decide) ?_
  refine x_iadd dL_law_210 ?_
  refine x_topi (y := nI (i + 1)) (nadd rfl (b := 1) rfl) ?_
  refine x_sld (vp_in_nI (by omega) (by omega)) dL_law_211 ?_
  refine x_aload_n dL_law_212 1 rfl ?_
  refine x_iload_n dL_law_213 0 rfl ?_
  refine x_iconst (v := 2) dL_law_214 (by decide) ?_
  refine x_iadd dL_law_215 ?_
  refine x_topi (y := nI (i + 2)) (nadd rfl (b := 2) rfl) ?_
  refine x_sld (vp_in_nI (by omega) (by omega)) dL_law_216 ?_
  refine x_callV (K := jX10_move) [.int (xs (nI (i + 1)).toNatClampNeg), .int (xs (nI (i + 2)).toNatClampNeg)] lk_L_17 ⟨⟨rfl, rfl⟩, Nat.le_of_ble_eq_true rfl, Nat.le_of_ble_eq_true rfl⟩ rfl rfl hM2 rfl (Nat.le_of_ble_eq_true rfl) rfl dL_law_217 (fun r2 W hQ2 => ?_)
  obtain ⟨rfl, hRW⟩ := hk2 r2 W hQ2
  show YY g (jLw g b L xs) Qf W 220 (lvL g b i) [.int z, .int z]
  exact x_icmp_eq 1335 dL_law_220 (by decide) (fun _ => kk W hRW) (fun q => absurd rfl q)
set_option maxRecDepth 100000 in
set_option maxHeartbeats 1000000 in
theorem lw_c1 {g : gX} {b L : Nat} {xs : Nat → Int32} {Qf : List Frame → Array Value → State → State → Prop} {V : vM} {i : Nat} (hi : i + 7 ≤ L) (hL : L ≤ 3584) (hR : RR V) (kk : ∀ W, RR W → YY g (jLw g b L xs) Qf W 1335 (lvL g b i) []) : YY g (jLw g b L xs) Qf V 225 (lvL g b i) [] := by
  refine x_aload_n dL_law_225 2 rfl ?_
  refine x_aload_n dL_law_226 1 rfl ?_
  refine x_iload_n dL_law_227 0 rfl ?_
  refine x_iconst (v := 1) dL_law_228 (by decide) ?_
  refine x_iadd dL_law_229 ?_
  refine x_topi (y := nI (i + 1)) (nadd rfl (b := 1) rfl) ?_
  refine x_sld (vp_in_nI (by omega) (by omega)) dL_law_230 ?_
  refine x_aload_n dL_law_231 1 rfl ?_
  refine x_iload_n dL_law_232 0 rfl ?_
  refine x_iconst (v := 2) dL_law_233 (by decide) ?_
  refine x_iadd dL_law_234 ?_
  refine x_topi (y := nI (i + 2)) (nadd rfl (b := 2) rfl) ?_
  refine x_sld (vp_in_nI (by omega) (by omega)) dL_law_235 ?_
  obtain ⟨Q, hM, hk⟩ := pr_line (g := g) hR (xs (nI (i + 1)).toNatClampNeg) (xs (nI (i + 2)).toNatClampNeg)
  refine x_callV (K := jX9_line) [.int (xs (nI (i + 1)).toNatClampNeg), .int (xs (nI (i + 2)).toNatClampNeg)] lk_L_18 ⟨⟨rfl, rfl⟩, Nat.le_of_ble_eq_true rfl, Nat.le_of_ble_eq_true rfl⟩ rfl rfl hM rfl (Nat.le_of_ble_eq_true rfl) rfl dL_law_236 (fun r U hQ => ?_)
  obtain ⟨z, rfl, Q2, hM2, hk2⟩ := hk r U hQ
  show YY g (jLw g b L xs) Qf U 239 (lvL g b i) [.int z]
  refine x_aload_n dL_law_239 3 rfl ?_
  refine x_aload_n dL_law_240 1 rfl ?_
  refine x_iload_n dL_law_241 0 rfl ?_
  refine x_iconst (v := 1) dL_law_242 (by decide) ?_
  refine x_iadd dL_law_243 ?_
  refine x_topi (y := nI (i + 1)) (nadd rfl (b := 1) rfl) ?_
  refine x_sld (vp_in_nI (by omega) (by omega)) dL_law_244 ?_
  refine x_aload_n dL_law_245 1 rfl ?_
  refine x_iload_n dL_law_246 0 rfl ?_
  refine x_iconst (v := 2) dL_law_247 (by decide) ?_
  refine x_iadd dL_law_248 ?_
  refine x_topi (y := nI (i + 2)) (nadd rfl (b := 2) rfl) ?_
  refine x_sld (vp_in_nI (by omega) (by omega)) dL_law_249 ?_
  refine x_callV (K := jX10_line) [.int (xs (nI (i + 1)).toNatClampNeg), .int (xs (nI (i + 2)).toNatClampNeg)] lk_L_21 ⟨⟨rfl, rfl⟩, Nat.le_of_ble_eq_true rfl, Nat.le_of_ble_eq_true rfl⟩ rfl rfl hM2 rfl (Nat.le_of_ble_eq_true rfl) rfl dL_law_250 (fun r2 W hQ2 => ?_)
  obtain ⟨rfl, hRW⟩ := hk2 r2 W hQ2
  show YY g (jLw g b L xs) Qf W 253 (lvL g b i) [.int z, .int z]
  exact x_icmp_eq 1335 dL_law_253 (by decide) (fun _ => kk W hRW) (fun q => absurd rfl q)
set_option maxRecDepth 100000 in
set_option maxHeartbeats 1000000 in
theorem lw_c2 {g : gX} {b L : Nat} {xs : Nat → Int32} {Qf : List Frame → Array Value → State → State → Prop} {V : vM} {i : Nat} (hi : i + 7 ≤ L) (hL : L ≤ 3584) (hR : RR V) (kk : ∀ W, RR W → YY g (jLw g b L xs) Qf W 1335 (lvL g b i) []) : YY g (jLw g b L xs) Qf V 258 (lvL g b i) [] := by
  refine x_aload_n dL_law_258 2 rfl ?_
  refine x_aload_n dL_law_259 1 rfl ?_
  refine x_iload_n dL_law_260 0 rfl ?_
  refine x_iconst (v := 1) dL_law_261 (by decide) ?_
  refine x_iadd dL_law_262 ?_
  refine x_topi (y := nI (i + 1)) (nadd rfl (b := 1) rfl) ?_
  refine x_sld (vp_in_nI (by omega) (by omega)) dL_law_263 ?_
  refine x_aload_n dL_law_264 1 rfl ?_
  refine x_iload_n dL_law_265 0 rfl ?_
  refine x_iconst (v := 2) dL_law_266 (by decide) ?_
  refine x_iadd dL_law_267 ?_
  refine x_topi (y := nI (i + 2)) (nadd rfl (b := 2) rfl) ?_
  refine x_sld (vp_in_nI (by omega) (by omega)) dL_law_268 ?_
  refine x_aload_n dL_law_269 1 rfl ?_
  refine x_iload_n dL_law_270 0 rfl ?_
  refine x_iconst (v := 3) dL_law_271 (by decide) ?_
  refine x_iadd dL_law_272 ?_
  refine x_topi (y := nI (i + 3)) (nadd rfl (b := 3) rfl) ?_
  refine x_sld (vp_in_nI (by omega) (by omega)) dL_law_273 ?_
  refine x_aload_n dL_law_274 1 rfl ?_
  refine x_iload_n dL_law_275 0 rfl ?_
  refine x_iconst (v := 4) dL_law_276 (by decide) ?_
  refine x_iadd dL_law_277 ?_
  refine x_topi (y := nI (i + 4)) (nadd rfl (b := 4) rfl) ?_
  refine x_sld (vp_in_nI (by omega) (by omega)) dL_law_278 ?_
  obtain ⟨Q, hM, hk⟩ := pr_quad (g := g) hR (xs (nI (i + 1)).toNatClampNeg) (xs (nI (i + 2)).toNatClampNeg) (xs (nI (i + 3)).toNatClampNeg) (xs (nI (i + 4)).toNatClampNeg)
  refine x_callV (K := jX9_quad) [.int (xs (nI (i + 1)).toNatClampNeg), .int (xs (nI (i + 2)).toNatClampNeg), .int (xs (nI (i + 3)).toNatClampNeg), .int (xs (nI (i + 4)).toNatClampNeg)] lk_L_22 ⟨⟨rfl, rfl⟩, Nat.le_of_ble_eq_true rfl, Nat.le_of_ble_eq_true rfl⟩ rfl rfl hM rfl (Nat.le_of_ble_eq_true rfl) rfl dL_law_279 (fun r U hQ => ?_)
  obtain ⟨z, rfl, Q2, hM2, hk2⟩ := hk r U hQ
  show YY g (jLw g b L xs) Qf U 282 (lvL g b i) [.int z]
  refine x_aload_n dL_law_282 3 rfl ?_
  refine x_aload_n dL_law_283 1 rfl ?_
  refine x_iload_n dL_law_284 0 rfl ?_
  refine x_iconst (v := 1) dL_law_285 (by decide) ?_
  refine x_iadd dL_law_286 ?_
  refine x_topi (y := nI (i + 1)) (nadd rfl (b := 1) rfl) ?_
  refine x_sld (vp_in_nI (by omega) (by omega)) dL_law_287 ?_
  refine x_aload_n dL_law_288 1 rfl ?_
  refine x_iload_n dL_law_289 0 rfl ?_
  refine x_iconst (v := 2) dL_law_290 (by decide) ?_
  refine x_iadd dL_law_291 ?_
  refine x_topi (y := nI (i + 2)) (nadd rfl (b := 2) rfl) ?_
  refine x_sld (vp_in_nI (by omega) (by omega)) dL_law_292 ?_
  refine x_aload_n dL_law_293 1 rfl ?_
  refine x_iload_n dL_law_294 0 rfl ?_
  refine x_iconst (v := 3) dL_law_295 (by decide) ?_
  refine x_iadd dL_law_296 ?_
  refine x_topi (y := nI (i + 3)) (nadd rfl (b := 3) rfl) ?_
  refine x_sld (vp_in_nI (by omega) (by omega)) dL_law_297 ?_
  refine x_aload_n dL_law_298 1 rfl ?_
  refine x_iload_n dL_law_299 0 rfl ?_
  refine x_iconst (v := 4) dL_law_300 (by decide) ?_
  refine x_iadd dL_law_301 ?_
  refine x_topi (y := nI (i + 4)) (nadd rfl (b := 4) rfl) ?_
  refine x_sld (vp_in_nI (by omega) (by omega)) dL_law_302 ?_
  refine x_callV (K := jX10_quad) [.int (xs (nI (i + 1)).toNatClampNeg), .int (xs (nI (i + 2)).toNatClampNeg), .int (xs (nI (i + 3)).toNatClampNeg), .int (xs (nI (i + 4)).toNatClampNeg)] lk_L_26 ⟨⟨rfl, rfl⟩, Nat.le_of_ble_eq_true rfl, Nat.le_of_ble_eq_true rfl⟩ rfl rfl hM2 rfl (Nat.le_of_ble_eq_true rfl) rfl dL_law_303 (fun r2 W hQ2 => ?_)
  obtain ⟨rfl, hRW⟩ := hk2 r2 W hQ2
  show YY g (jLw g b L xs) Qf W 306 (lvL g b i) [.int z, .int z]
  exact x_icmp_eq 1335 dL_law_306 (by decide) (fun _ => kk W hRW) (fun q => absurd rfl q)
set_option maxRecDepth 100000 in
set_option maxHeartbeats 1000000 in
theorem lw_c3 {g : gX} {b L : Nat} {xs : Nat → Int32} {Qf : List Frame → Array Value → State → State → Prop} {V : vM} {i : Nat} (hi : i + 7 ≤ L) (hL : L ≤ 3584) (hR : RR V) (kk : ∀ W, RR W → YY g (jLw g b L xs) Qf W 1335 (lvL g b i) []) : YY g (jLw g b L xs) Qf V 311 (lvL g b i) [] := by
  refine x_aload_n dL_law_311 2 rfl ?_
  refine x_aload_n dL_law_312 1 rfl ?_
  refine x_iload_n dL_law_313 0 rfl ?_
  refine x_iconst (v := 1) dL_law_314 (by decide) ?_
  refine x_iadd dL_law_315 ?_
  refine x_topi (y := nI (i + 1)) (nadd rfl (b := 1) rfl) ?_
  refine x_sld (vp_in_nI (by omega) (by omega)) dL_law_316 ?_
  refine x_aload_n dL_law_317 1 rfl ?_
  refine x_iload_n dL_law_318 0 rfl ?_
  refine x_iconst (v := 2) dL_law_319 (by decide) ?_
  refine x_iadd dL_law_320 ?_
  refine x_topi (y := nI (i + 2)) (nadd rfl (b := 2) rfl) ?_
  refine x_sld (vp_in_nI (by omega) (by omega)) dL_law_321 ?_
  refine x_aload_n dL_law_322 1 rfl ?_
  refine x_iload_n dL_law_323 0 rfl ?_
  refine x_iconst (v := 3) dL_law_324 (by decide) ?_
  refine x_iadd dL_law_325 ?_
  refine x_topi (y := nI (i + 3)) (nadd rfl (b := 3) rfl) ?_
  refine x_sld (vp_in_nI (by omega) (by omega)) dL_law_326 ?_
  refine x_aload_n dL_law_327 1 rfl ?_
  refine x_iload_n dL_law_328 0 rfl ?_
  refine x_iconst (v := 4) dL_law_329 (by decide) ?_
  refine x_iadd dL_law_330 ?_
  refine x_topi (y := nI (i + 4)) (nadd rfl (b := 4) rfl) ?_
  refine x_sld (vp_in_nI (by omega) (by omega)) dL_law_331 ?_
  refine x_aload_n dL_law_332 1 rfl ?_
  refine x_iload_n dL_law_333 0 rfl ?_
  refine x_iconst (v := 5) dL_law_334 (by decide) ?_
  refine x_iadd dL_law_335 ?_
  refine x_topi (y := nI (i + 5)) (nadd rfl (b := 5) rfl) ?_
  refine x_sld (vp_in_nI (by omega) (by omega)) dL_law_336 ?_
  refine x_aload_n dL_law_337 1 rfl ?_
  refine x_iload_n dL_law_338 0 rfl ?_
  refine x_bipush (v := 6) dL_law_339 (by decide) ?_
  refine x_iadd dL_law_341 ?_
  refine x_topi (y := nI (i + 6)) (nadd rfl (b := 6) rfl) ?_
  refine x_sld (vp_in_nI (by omega) (by omega)) dL_law_342 ?_
  obtain ⟨Q, hM, hk⟩ := pr_cubic (g := g) hR (xs (nI (i + 1)).toNatClampNeg) (xs (nI (i + 2)).toNatClampNeg) (xs (nI (i + 3)).toNatClampNeg) (xs (nI (i + 4)).toNatClampNeg) (xs (nI (i + 5)).toNatClampNeg) (xs (nI (i + 6)).toNatClampNeg)
  refine x_callV (K := jX9_cubic) [.int (xs (nI (i + 1)).toNatClampNeg), .int (xs (nI (i + 2)).toNatClampNeg), .int (xs (nI (i + 3)).toNatClampNeg), .int (xs (nI (i + 4)).toNatClampNeg), .int (xs (nI (i + 5)).toNatClampNeg), .int (xs (nI (i + 6)).toNatClampNeg)] lk_L_27 ⟨⟨rfl, rfl⟩, Nat.le_of_ble_eq_true rfl, Nat.le_of_ble_eq_true rfl⟩ rfl rfl hM rfl (Nat.le_of_ble_eq_true rfl) rfl dL_law_343 (fun r U hQ => ?_)
  obtain ⟨z, rfl, Q2, hM2, hk2⟩ := hk r U hQ
  show YY g (jLw g b L xs) Qf U 346 (lvL g b i) [.int z]
  refine x_aload_n dL_law_346 3 rfl ?_
  refine x_aload_n dL_law_347 1 rfl ?_
  refine x_iload_n dL_law_348 0 rfl ?_
  refine x_iconst (v := 1) dL_law_349 (by decide) ?_
  refine x_iadd dL_law_350 ?_
  refine x_topi (y := nI (i + 1)) (nadd rfl (b := 1) rfl) ?_
  refine x_sld (vp_in_nI (by omega) (by omega)) dL_law_351 ?_
  refine x_aload_n dL_law_352 1 rfl ?_
  refine x_iload_n dL_law_353 0 rfl ?_
  refine x_iconst (v := 2) dL_law_354 (by decide) ?_
  refine x_iadd dL_law_355 ?_
  refine x_topi (y := nI (i + 2)) (nadd rfl (b := 2) rfl) ?_
  refine x_sld (vp_in_nI (by omega) (by omega)) dL_law_356 ?_
  refine x_aload_n dL_law_357 1 rfl ?_
  refine x_iload_n dL_law_358 0 rfl ?_
  refine x_iconst (v := 3) dL_law_359 (by decide) ?_
  refine x_iadd dL_law_360 ?_
  refine x_topi (y := nI (i + 3)) (nadd rfl (b := 3) rfl) ?_
  refine x_sld (vp_in_nI (by omega) (by omega)) dL_law_361 ?_
  refine x_aload_n dL_law_362 1 rfl ?_
  refine x_iload_n dL_law_363 0 rfl ?_
  refine x_iconst (v := 4) dL_law_364 (by decide) ?_
  refine x_iadd dL_law_365 ?_
  refine x_topi (y := nI (i + 4)) (nadd rfl (b := 4) rfl) ?_
  refine x_sld (vp_in_nI (by omega) (by omega)) dL_law_366 ?_
  refine x_aload_n dL_law_367 1 rfl ?_
  refine x_iload_n dL_law_368 0 rfl ?_
  refine x_iconst (v := 5) dL_law_369 (by decide) ?_
  refine x_iadd dL_law_370 ?_
  refine x_topi (y := nI (i + 5)) (nadd rfl (b := 5) rfl) ?_
  refine x_sld (vp_in_nI (by omega) (by omega)) dL_law_371 ?_
  refine x_aload_n dL_law_372 1 rfl ?_
  refine x_iload_n dL_law_373 0 rfl ?_
  refine x_bipush (v := 6) dL_law_374 (by decide) ?_
  refine x_iadd dL_law_376 ?_
  refine x_topi (y := nI (i + 6)) (nadd rfl (b := 6) rfl) ?_
  refine x_sld (vp_in_nI (by omega) (by omega)) dL_law_377 ?_
  refine x_callV (K := jX10_cubic) [.int (xs (nI (i + 1)).toNatClampNeg), .int (xs (nI (i + 2)).toNatClampNeg), .int (xs (nI (i + 3)).toNatClampNeg), .int (xs (nI (i + 4)).toNatClampNeg), .int (xs (nI (i + 5)).toNatClampNeg), .int (xs (nI (i + 6)).toNatClampNeg)] lk_L_31 ⟨⟨rfl, rfl⟩, Nat.le_of_ble_eq_true rfl, Nat.le_of_ble_eq_true rfl⟩ rfl rfl hM2 rfl (Nat.le_of_ble_eq_true rfl) rfl dL_law_378 (fun r2 W hQ2 => ?_)
  obtain ⟨rfl, hRW⟩ := hk2 r2 W hQ2
  show YY g (jLw g b L xs) Qf W 381 (lvL g b i) [.int z, .int z]
  exact x_icmp_eq 1335 dL_law_381 (by decide) (fun _ => kk W hRW) (fun q => absurd rfl q)
set_option maxRecDepth 100000 in
set_option maxHeartbeats 1000000 in
theorem lw_c4 {g : gX} {b L : Nat} {xs : Nat → Int32} {Qf : List Frame → Array Value → State → State → Prop} {V : vM} {i : Nat} (hi : i + 7 ≤ L) (hL : L ≤ 3584) (hR : RR V) (kk : ∀ W, RR W → YY g (jLw g b L xs) Qf W 1335 (lvL g b i) []) : YY g (jLw g b L xs) Qf V 386 (lvL g b i) [] := by
  refine x_aload_n dL_law_386 2 rfl ?_
  obtain ⟨Q, hM, hk⟩ := pr_close (g := g) hR 
  refine x_callV (K := jX9_close) [] lk_L_32 ⟨⟨rfl, rfl⟩, Nat.le_of_ble_eq_true rfl, Nat.le_of_ble_eq_true rfl⟩ rfl rfl hM rfl (Nat.le_of_ble_eq_true rfl) rfl dL_law_387 (fun r U hQ => ?_)
  obtain ⟨z, rfl, Q2, hM2, hk2⟩ := hk r U hQ
  show YY g (jLw g b L xs) Qf U 390 (lvL g b i) [.int z]
  refine x_aload_n dL_law_390 3 rfl ?_
  refine x_callV (K := jX10_close) [] lk_L_36 ⟨⟨rfl, rfl⟩, Nat.le_of_ble_eq_true rfl, Nat.le_of_ble_eq_true rfl⟩ rfl rfl hM2 rfl (Nat.le_of_ble_eq_true rfl) rfl dL_law_391 (fun r2 W hQ2 => ?_)
  obtain ⟨rfl, hRW⟩ := hk2 r2 W hQ2
  show YY g (jLw g b L xs) Qf W 394 (lvL g b i) [.int z, .int z]
  exact x_icmp_eq 1335 dL_law_394 (by decide) (fun _ => kk W hRW) (fun q => absurd rfl q)
set_option maxRecDepth 100000 in
set_option maxHeartbeats 1000000 in
theorem lw_c5 {g : gX} {b L : Nat} {xs : Nat → Int32} {Qf : List Frame → Array Value → State → State → Prop} {V : vM} {i : Nat} (hi : i + 7 ≤ L) (hL : L ≤ 3584) (hR : RR V) (kk : ∀ W, RR W → YY g (jLw g b L xs) Qf W 1335 (lvL g b i) []) : YY g (jLw g b L xs) Qf V 399 (lvL g b i) [] := by
  refine x_aload_n dL_law_399 2 rfl ?_
  obtain ⟨Q, hM, hk⟩ := pr_removeLast (g := g) hR 
  refine x_callV (K := jX9_removeLast) [] lk_L_37 ⟨⟨rfl, rfl⟩, Nat.le_of_ble_eq_true rfl, Nat.le_of_ble_eq_true rfl⟩ rfl rfl hM rfl (Nat.le_of_ble_eq_true rfl) rfl dL_law_400 (fun r U hQ => ?_)
  obtain ⟨z, rfl, Q2, hM2, hk2⟩ := hk r U hQ
  show YY g (jLw g b L xs) Qf U 403 (lvL g b i) [.int z]
  refine x_aload_n dL_law_403 3 rfl ?_
  refine x_callV (K := jX10_removeLast) [] lk_L_40 ⟨⟨rfl, rfl⟩, Nat.le_of_ble_eq_true rfl, Nat.le_of_ble_eq_true rfl⟩ rfl rfl hM2 rfl (Nat.le_of_ble_eq_true rfl) rfl dL_law_404 (fun r2 W hQ2 => ?_)
  obtain ⟨rfl, hRW⟩ := hk2 r2 W hQ2
  show YY g (jLw g b L xs) Qf W 407 (lvL g b i) [.int z, .int z]
  exact x_icmp_eq 1335 dL_law_407 (by decide) (fun _ => kk W hRW) (fun q => absurd rfl q)
set_option maxRecDepth 100000 in
set_option maxHeartbeats 1000000 in
theorem lw_c6 {g : gX} {b L : Nat} {xs : Nat → Int32} {Qf : List Frame → Array Value → State → State → Prop} {V : vM} {i : Nat} (hi : i + 7 ≤ L) (hL : L ≤ 3584) (hR : RR V) (kk : ∀ W, RR W → YY g (jLw g b L xs) Qf W 1335 (lvL g b i) []) : YY g (jLw g b L xs) Qf V 412 (lvL g b i) [] := by
  refine x_aload_n dL_law_412 2 rfl ?_
  refine x_aload_n dL_law_413 1 rfl ?_
  refine x_iload_n dL_law_414 0 rfl ?_
  refine x_iconst (v := 1) dL_law_415 (by decide) ?_
  refine x_iadd dL_law_416 ?_
  refine x_topi (y := nI (i + 1)) (nadd rfl (b := 1) rfl) ?_
  refine x_sld (vp_in_nI (by omega) (by omega)) dL_law_417 ?_
  refine x_aload_n dL_law_418 1 rfl ?_
  refine x_iload_n dL_law_419 0 rfl ?_
  refine x_iconst (v := 2) dL_law_420 (by decide) ?_
  refine x_iadd dL_law_421 ?_
  refine x_topi (y := nI (i + 2)) (nadd rfl (b := 2) rfl) ?_
  refine x_sld (vp_in_nI (by omega) (by omega)) dL_law_422 ?_
  obtain ⟨Q, hM, hk⟩ := pr_command (g := g) hR (xs (nI (i + 1)).toNatClampNeg) (xs (nI (i + 2)).toNatClampNeg)
  refine x_callV (K := jX9_command) [.int (xs (nI (i + 1)).toNatClampNeg), .int (xs (nI (i + 2)).toNatClampNeg)] lk_L_41 ⟨⟨rfl, rfl⟩, Nat.le_of_ble_eq_true rfl, Nat.le_of_ble_eq_true rfl⟩ rfl rfl hM rfl (Nat.le_of_ble_eq_true rfl) rfl dL_law_423 (fun r U hQ => ?_)
  obtain ⟨z, rfl, Q2, hM2, hk2⟩ := hk r U hQ
  show YY g (jLw g b L xs) Qf U 426 (lvL g b i) [.int z]
  refine x_aload_n dL_law_426 3 rfl ?_
  refine x_aload_n dL_law_427 1 rfl ?_
  refine x_iload_n dL_law_428 0 rfl ?_
  refine x_iconst (v := 1) dL_law_429 (by decide) ?_
  refine x_iadd dL_law_430 ?_
  refine x_topi (y := nI (i + 1)) (nadd rfl (b := 1) rfl) ?_
  refine x_sld (vp_in_nI (by omega) (by omega)) dL_law_431 ?_
  refine x_aload_n dL_law_432 1 rfl ?_
  refine x_iload_n dL_law_433 0 rfl ?_
  refine x_iconst (v := 2) dL_law_434 (by decide) ?_
  refine x_iadd dL_law_435 ?_
  refine x_topi (y := nI (i + 2)) (nadd rfl (b := 2) rfl) ?_
  refine x_sld (vp_in_nI (by omega) (by omega)) dL_law_436 ?_
  refine x_callV (K := jX10_command) [.int (xs (nI (i + 1)).toNatClampNeg), .int (xs (nI (i + 2)).toNatClampNeg)] lk_L_44 ⟨⟨rfl, rfl⟩, Nat.le_of_ble_eq_true rfl, Nat.le_of_ble_eq_true rfl⟩ rfl rfl hM2 rfl (Nat.le_of_ble_eq_true rfl) rfl dL_law_437 (fun r2 W hQ2 => ?_)
  obtain ⟨rfl, hRW⟩ := hk2 r2 W hQ2
  show YY g (jLw g b L xs) Qf W 440 (lvL g b i) [.int z, .int z]
  exact x_icmp_eq 1335 dL_law_440 (by decide) (fun _ => kk W hRW) (fun q => absurd rfl q)
set_option maxRecDepth 100000 in
set_option maxHeartbeats 1000000 in
theorem lw_c7 {g : gX} {b L : Nat} {xs : Nat → Int32} {Qf : List Frame → Array Value → State → State → Prop} {V : vM} {i : Nat} (hi : i + 7 ≤ L) (hL : L ≤ 3584) (hR : RR V) (kk : ∀ W, RR W → YY g (jLw g b L xs) Qf W 1335 (lvL g b i) []) : YY g (jLw g b L xs) Qf V 445 (lvL g b i) [] := by
  refine x_aload_n dL_law_445 2 rfl ?_
  refine x_aload_n dL_law_446 1 rfl ?_
  refine x_iload_n dL_law_447 0 rfl ?_
  refine x_iconst (v := 1) dL_law_448 (by decide) ?_
  refine x_iadd dL_law_449 ?_
  refine x_topi (y := nI (i + 1)) (nadd rfl (b := 1) rfl) ?_
  refine x_sld (vp_in_nI (by omega) (by omega)) dL_law_450 ?_
  obtain ⟨Q, hM, hk⟩ := pr_setTolerance (g := g) hR (xs (nI (i + 1)).toNatClampNeg)
  refine x_callV (K := jX9_setTolerance) [.int (xs (nI (i + 1)).toNatClampNeg)] lk_L_45 ⟨⟨rfl, rfl⟩, Nat.le_of_ble_eq_true rfl, Nat.le_of_ble_eq_true rfl⟩ rfl rfl hM rfl (Nat.le_of_ble_eq_true rfl) rfl dL_law_451 (fun r U hQ => ?_)
  obtain ⟨z, rfl, Q2, hM2, hk2⟩ := hk r U hQ
  show YY g (jLw g b L xs) Qf U 454 (lvL g b i) [.int z]
  refine x_aload_n dL_law_454 3 rfl ?_
  refine x_aload_n dL_law_455 1 rfl ?_
  refine x_iload_n dL_law_456 0 rfl ?_
  refine x_iconst (v := 1) dL_law_457 (by decide) ?_
  refine x_iadd dL_law_458 ?_
  refine x_topi (y := nI (i + 1)) (nadd rfl (b := 1) rfl) ?_
  refine x_sld (vp_in_nI (by omega) (by omega)) dL_law_459 ?_
  refine x_callV (K := jX10_setTolerance) [.int (xs (nI (i + 1)).toNatClampNeg)] lk_L_49 ⟨⟨rfl, rfl⟩, Nat.le_of_ble_eq_true rfl, Nat.le_of_ble_eq_true rfl⟩ rfl rfl hM2 rfl (Nat.le_of_ble_eq_true rfl) rfl dL_law_460 (fun r2 W hQ2 => ?_)
  obtain ⟨rfl, hRW⟩ := hk2 r2 W hQ2
  show YY g (jLw g b L xs) Qf W 463 (lvL g b i) [.int z, .int z]
  exact x_icmp_eq 1335 dL_law_463 (by decide) (fun _ => kk W hRW) (fun q => absurd rfl q)
set_option maxRecDepth 100000 in
set_option maxHeartbeats 1000000 in
theorem lw_c8 {g : gX} {b L : Nat} {xs : Nat → Int32} {Qf : List Frame → Array Value → State → State → Prop} {V : vM} {i : Nat} (hi : i + 7 ≤ L) (hL : L ≤ 3584) (hR : RR V) (kk : ∀ W, RR W → YY g (jLw g b L xs) Qf W 1335 (lvL g b i) []) : YY g (jLw g b L xs) Qf V 468 (lvL g b i) [] := by
  refine x_aload_n dL_law_468 2 rfl ?_
  refine x_aload_n dL_law_469 1 rfl ?_
  refine x_iload_n dL_law_470 0 rfl ?_
  refine x_iconst (v := 1) dL_law_471 (by decide) ?_
  refine x_iadd dL_law_472 ?_
  refine x_topi (y := nI (i + 1)) (nadd rfl (b := 1) rfl) ?_
  refine x_sld (vp_in_nI (by omega) (by omega)) dL_law_473 ?_
  obtain ⟨Q, hM, hk⟩ := pr_reverse (g := g) hR (xs (nI (i + 1)).toNatClampNeg)
  refine x_callV (K := jX9_reverse) [.int (xs (nI (i + 1)).toNatClampNeg)] lk_L_50 ⟨⟨rfl, rfl⟩, Nat.le_of_ble_eq_true rfl, Nat.le_of_ble_eq_true rfl⟩ rfl rfl hM rfl (Nat.le_of_ble_eq_true rfl) rfl dL_law_474 (fun r U hQ => ?_)
  obtain ⟨z, rfl, Q2, hM2, hk2⟩ := hk r U hQ
  show YY g (jLw g b L xs) Qf U 477 (lvL g b i) [.int z]
  refine x_aload_n dL_law_477 3 rfl ?_
  refine x_aload_n dL_law_478 1 rfl ?_
  refine x_iload_n dL_law_479 0 rfl ?_
  refine x_iconst (v := 1) dL_law_480 (by decide) ?_
  refine x_iadd dL_law_481 ?_
  refine x_topi (y := nI (i + 1)) (nadd rfl (b := 1) rfl) ?_
  refine x_sld (vp_in_nI (by omega) (by omega)) dL_law_482 ?_
  refine x_callV (K := jX10_reverse) [.int (xs (nI (i + 1)).toNatClampNeg)] lk_L_53 ⟨⟨rfl, rfl⟩, Nat.le_of_ble_eq_true rfl, Nat.le_of_ble_eq_true rfl⟩ rfl rfl hM2 rfl (Nat.le_of_ble_eq_true rfl) rfl dL_law_483 (fun r2 W hQ2 => ?_)
  obtain ⟨rfl, hRW⟩ := hk2 r2 W hQ2
  show YY g (jLw g b L xs) Qf W 486 (lvL g b i) [.int z, .int z]
  exact x_icmp_eq 1335 dL_law_486 (by decide) (fun _ => kk W hRW) (fun q => absurd rfl q)
set_option maxRecDepth 100000 in
set_option maxHeartbeats 1000000 in
theorem lw_c9 {g : gX} {b L : Nat} {xs : Nat → Int32} {Qf : List Frame → Array Value → State → State → Prop} {V : vM} {i : Nat} (hi : i + 7 ≤ L) (hL : L ≤ 3584) (hR : RR V) (kk : ∀ W, RR W → YY g (jLw g b L xs) Qf W 1335 (lvL g b i) []) : YY g (jLw g b L xs) Qf V 491 (lvL g b i) [] := by
  refine x_aload_n dL_law_491 2 rfl ?_
  refine x_aload_n dL_law_492 1 rfl ?_
  refine x_iload_n dL_law_493 0 rfl ?_
  refine x_iconst (v := 1) dL_law_494 (by decide) ?_
  refine x_iadd dL_law_495 ?_
  refine x_topi (y := nI (i + 1)) (nadd rfl (b := 1) rfl) ?_
  refine x_sld (vp_in_nI (by omega) (by omega)) dL_law_496 ?_
  refine x_aload_n dL_law_497 1 rfl ?_
  refine x_iload_n dL_law_498 0 rfl ?_
  refine x_iconst (v := 2) dL_law_499 (by decide) ?_
  refine x_iadd dL_law_500 ?_
  refine x_topi (y := nI (i + 2)) (nadd rfl (b := 2) rfl) ?_
  refine x_sld (vp_in_nI (by omega) (by omega)) dL_law_501 ?_
  refine x_aload_n dL_law_502 1 rfl ?_
  refine x_iload_n dL_law_503 0 rfl ?_
  refine x_iconst (v := 3) dL_law_504 (by decide) ?_
  refine x_iadd dL_law_505 ?_
  refine x_topi (y := nI (i + 3)) (nadd rfl (b := 3) rfl) ?_
  refine x_sld (vp_in_nI (by omega) (by omega)) dL_law_506 ?_
  refine x_aload_n dL_law_507 1 rfl ?_
  refine x_iload_n dL_law_508 0 rfl ?_
  refine x_iconst (v := 4) dL_law_509 (by decide) ?_
  refine x_iadd dL_law_510 ?_
  refine x_topi (y := nI (i + 4)) (nadd rfl (b := 4) rfl) ?_
  refine x_sld (vp_in_nI (by omega) (by omega)) dL_law_511 ?_
  refine x_aload_n dL_law_512 1 rfl ?_
  refine x_iload_n dL_law_513 0 rfl ?_
  refine x_iconst (v := 5) dL_law_514 (by decide) ?_
  refine x_iadd dL_law_515 ?_
  refine x_topi (y := nI (i + 5)) (nadd rfl (b := 5) rfl) ?_
  refine x_sld (vp_in_nI (by omega) (by omega)) dL_law_516 ?_
  refine x_aload_n dL_law_517 1 rfl ?_
  refine x_iload_n dL_law_518 0 rfl ?_
  refine x_bipush (v := 6) dL_law_519 (by decide) ?_
  refine x_iadd dL_law_521 ?_
  refine x_topi (y := nI (i + 6)) (nadd rfl (b := 6) rfl) ?_
  refine x_sld (vp_in_nI (by omega) (by omega)) dL_law_522 ?_
  obtain ⟨Q, hM, hk⟩ := pr_transform (g := g) hR (xs (nI (i + 1)).toNatClampNeg) (xs (nI (i + 2)).toNatClampNeg) (xs (nI (i + 3)).toNatClampNeg) (xs (nI (i + 4)).toNatClampNeg) (xs (nI (i + 5)).toNatClampNeg) (xs (nI (i + 6)).toNatClampNeg)
  refine x_callV (K := jX9_transform) [.int (xs (nI (i + 1)).toNatClampNeg), .int (xs (nI (i + 2)).toNatClampNeg), .int (xs (nI (i + 3)).toNatClampNeg), .int (xs (nI (i + 4)).toNatClampNeg), .int (xs (nI (i + 5)).toNatClampNeg), .int (xs (nI (i + 6)).toNatClampNeg)] lk_L_54 ⟨⟨rfl, rfl⟩, Nat.le_of_ble_eq_true rfl, Nat.le_of_ble_eq_true rfl⟩ rfl rfl hM rfl (Nat.le_of_ble_eq_true rfl) rfl dL_law_523 (fun r U hQ => ?_)
  obtain ⟨z, rfl, Q2, hM2, hk2⟩ := hk r U hQ
  show YY g (jLw g b L xs) Qf U 526 (lvL g b i) [.int z]
  refine x_aload_n dL_law_526 3 rfl ?_
  refine x_aload_n dL_law_527 1 rfl ?_
  refine x_iload_n dL_law_528 0 rfl ?_
  refine x_iconst (v := 1) dL_law_529 (by decide) ?_
  refine x_iadd dL_law_530 ?_
  refine x_topi (y := nI (i + 1)) (nadd rfl (b := 1) rfl) ?_
  refine x_sld (vp_in_nI (by omega) (by omega)) dL_law_531 ?_
  refine x_aload_n dL_law_532 1 rfl ?_
  refine x_iload_n dL_law_533 0 rfl ?_
  refine x_iconst (v := 2) dL_law_534 (by decide) ?_
  refine x_iadd dL_law_535 ?_
  refine x_topi (y := nI (i + 2)) (nadd rfl (b := 2) rfl) ?_
  refine x_sld (vp_in_nI (by omega) (by omega)) dL_law_536 ?_
  refine x_aload_n dL_law_537 1 rfl ?_
  refine x_iload_n dL_law_538 0 rfl ?_
  refine x_iconst (v := 3) dL_law_539 (by decide) ?_
  refine x_iadd dL_law_540 ?_
  refine x_topi (y := nI (i + 3)) (nadd rfl (b := 3) rfl) ?_
  refine x_sld (vp_in_nI (by omega) (by omega)) dL_law_541 ?_
  refine x_aload_n dL_law_542 1 rfl ?_
  refine x_iload_n dL_law_543 0 rfl ?_
  refine x_iconst (v := 4) dL_law_544 (by decide) ?_
  refine x_iadd dL_law_545 ?_
  refine x_topi (y := nI (i + 4)) (nadd rfl (b := 4) rfl) ?_
  refine x_sld (vp_in_nI (by omega) (by omega)) dL_law_546 ?_
  refine x_aload_n dL_law_547 1 rfl ?_
  refine x_iload_n dL_law_548 0 rfl ?_
  refine x_iconst (v := 5) dL_law_549 (by decide) ?_
  refine x_iadd dL_law_550 ?_
  refine x_topi (y := nI (i + 5)) (nadd rfl (b := 5) rfl) ?_
  refine x_sld (vp_in_nI (by omega) (by omega)) dL_law_551 ?_
  refine x_aload_n dL_law_552 1 rfl ?_
  refine x_iload_n dL_law_553 0 rfl ?_
  refine x_bipush (v := 6) dL_law_554 (by decide) ?_
  refine x_iadd dL_law_556 ?_
  refine x_topi (y := nI (i + 6)) (nadd rfl (b := 6) rfl) ?_
  refine x_sld (vp_in_nI (by omega) (by omega)) dL_law_557 ?_
  refine x_callV (K := jX10_transform) [.int (xs (nI (i + 1)).toNatClampNeg), .int (xs (nI (i + 2)).toNatClampNeg), .int (xs (nI (i + 3)).toNatClampNeg), .int (xs (nI (i + 4)).toNatClampNeg), .int (xs (nI (i + 5)).toNatClampNeg), .int (xs (nI (i + 6)).toNatClampNeg)] lk_L_57 ⟨⟨rfl, rfl⟩, Nat.le_of_ble_eq_true rfl, Nat.le_of_ble_eq_true rfl⟩ rfl rfl hM2 rfl (Nat.le_of_ble_eq_true rfl) rfl dL_law_558 (fun r2 W hQ2 => ?_)
  obtain ⟨rfl, hRW⟩ := hk2 r2 W hQ2
  show YY g (jLw g b L xs) Qf W 561 (lvL g b i) [.int z, .int z]
  exact x_icmp_eq 1335 dL_law_561 (by decide) (fun _ => kk W hRW) (fun q => absurd rfl q)
set_option maxRecDepth 100000 in
set_option maxHeartbeats 1000000 in
theorem lw_c10 {g : gX} {b L : Nat} {xs : Nat → Int32} {Qf : List Frame → Array Value → State → State → Prop} {V : vM} {i : Nat} (hi : i + 7 ≤ L) (hL : L ≤ 3584) (hR : RR V) (kk : ∀ W, RR W → YY g (jLw g b L xs) Qf W 1335 (lvL g b i) []) : YY g (jLw g b L xs) Qf V 566 (lvL g b i) [] := by
  refine x_aload_n dL_law_566 2 rfl ?_
  refine x_aload_n dL_law_567 1 rfl ?_
  refine x_iload_n dL_law_568 0 rfl ?_
  refine x_iconst (v := 1) dL_law_569 (by decide) ?_
  refine x_iadd dL_law_570 ?_
  refine x_topi (y := nI (i + 1)) (nadd rfl (b := 1) rfl) ?_
  refine x_sld (vp_in_nI (by omega) (by omega)) dL_law_571 ?_
  obtain ⟨Q, hM, hk⟩ := pr_say (g := g) hR (xs (nI (i + 1)).toNatClampNeg)
  refine x_callV (K := jX9_say) [.int (xs (nI (i + 1)).toNatClampNeg)] lk_L_58 ⟨⟨rfl, rfl⟩, Nat.le_of_ble_eq_true rfl, Nat.le_of_ble_eq_true rfl⟩ rfl rfl hM rfl (Nat.le_of_ble_eq_true rfl) rfl dL_law_572 (fun r U hQ => ?_)
  obtain ⟨z, rfl, Q2, hM2, hk2⟩ := hk r U hQ
  show YY g (jLw g b L xs) Qf U 575 (lvL g b i) [.int z]
  refine x_aload_n dL_law_575 3 rfl ?_
  refine x_aload_n dL_law_576 1 rfl ?_
  refine x_iload_n dL_law_577 0 rfl ?_
  refine x_iconst (v := 1) dL_law_578 (by decide) ?_
  refine x_iadd dL_law_579 ?_
  refine x_topi (y := nI (i + 1)) (nadd rfl (b := 1) rfl) ?_
  refine x_sld (vp_in_nI (by omega) (by omega)) dL_law_580 ?_
  refine x_callV (K := jX10_say) [.int (xs (nI (i + 1)).toNatClampNeg)] lk_L_61 ⟨⟨rfl, rfl⟩, Nat.le_of_ble_eq_true rfl, Nat.le_of_ble_eq_true rfl⟩ rfl rfl hM2 rfl (Nat.le_of_ble_eq_true rfl) rfl dL_law_581 (fun r2 W hQ2 => ?_)
  obtain ⟨rfl, hRW⟩ := hk2 r2 W hQ2
  show YY g (jLw g b L xs) Qf W 584 (lvL g b i) [.int z, .int z]
  exact x_icmp_eq 1335 dL_law_584 (by decide) (fun _ => kk W hRW) (fun q => absurd rfl q)
set_option maxRecDepth 100000 in
set_option maxHeartbeats 1000000 in
theorem lw_c11 {g : gX} {b L : Nat} {xs : Nat → Int32} {Qf : List Frame → Array Value → State → State → Prop} {V : vM} {i : Nat} (hi : i + 7 ≤ L) (hL : L ≤ 3584) (hR : RR V) (kk : ∀ W, RR W → YY g (jLw g b L xs) Qf W 1335 (lvL g b i) []) : YY g (jLw g b L xs) Qf V 589 (lvL g b i) [] := by
  refine x_aload_n dL_law_589 2 rfl ?_
  obtain ⟨Q, hM, hk⟩ := pr_wipe (g := g) hR 
  refine x_callV (K := jX9_wipe) [] lk_L_62 ⟨⟨rfl, rfl⟩, Nat.le_of_ble_eq_true rfl, Nat.le_of_ble_eq_true rfl⟩ rfl rfl hM rfl (Nat.le_of_ble_eq_true rfl) rfl dL_law_590 (fun r U hQ => ?_)
  obtain ⟨z, rfl, Q2, hM2, hk2⟩ := hk r U hQ
  show YY g (jLw g b L xs) Qf U 593 (lvL g b i) [.int z]
  refine x_aload_n dL_law_593 3 rfl ?_
  refine x_callV (K := jX10_wipe) [] lk_L_65 ⟨⟨rfl, rfl⟩, Nat.le_of_ble_eq_true rfl, Nat.le_of_ble_eq_true rfl⟩ rfl rfl hM2 rfl (Nat.le_of_ble_eq_true rfl) rfl dL_law_594 (fun r2 W hQ2 => ?_)
  obtain ⟨rfl, hRW⟩ := hk2 r2 W hQ2
  show YY g (jLw g b L xs) Qf W 597 (lvL g b i) [.int z, .int z]
  exact x_icmp_eq 1335 dL_law_597 (by decide) (fun _ => kk W hRW) (fun q => absurd rfl q)
set_option maxRecDepth 100000 in
set_option maxHeartbeats 1000000 in
theorem lw_c12 {g : gX} {b L : Nat} {xs : Nat → Int32} {Qf : List Frame → Array Value → State → State → Prop} {V : vM} {i : Nat} (hi : i + 7 ≤ L) (hL : L ≤ 3584) (hR : RR V) (kk : ∀ W, RR W → YY g (jLw g b L xs) Qf W 1335 (lvL g b i) []) : YY g (jLw g b L xs) Qf V 602 (lvL g b i) [] := by
  refine x_aload_n dL_law_602 2 rfl ?_
  obtain ⟨Q, hM, hk⟩ := pr_fault (g := g) hR 
  refine x_callV (K := jX9_fault) [] lk_L_66 ⟨⟨rfl, rfl⟩, Nat.le_of_ble_eq_true rfl, Nat.le_of_ble_eq_true rfl⟩ rfl rfl hM rfl (Nat.le_of_ble_eq_true rfl) rfl dL_law_603 (fun r U hQ => ?_)
  obtain ⟨z, rfl, Q2, hM2, hk2⟩ := hk r U hQ
  show YY g (jLw g b L xs) Qf U 606 (lvL g b i) [.int z]
  refine x_aload_n dL_law_606 3 rfl ?_
  refine x_callV (K := jX10_fault) [] lk_L_69 ⟨⟨rfl, rfl⟩, Nat.le_of_ble_eq_true rfl, Nat.le_of_ble_eq_true rfl⟩ rfl rfl hM2 rfl (Nat.le_of_ble_eq_true rfl) rfl dL_law_607 (fun r2 W hQ2 => ?_)
  obtain ⟨rfl, hRW⟩ := hk2 r2 W hQ2
  show YY g (jLw g b L xs) Qf W 610 (lvL g b i) [.int z, .int z]
  exact x_icmp_eq 1335 dL_law_610 (by decide) (fun _ => kk W hRW) (fun q => absurd rfl q)
set_option maxRecDepth 100000 in
set_option maxHeartbeats 1000000 in
theorem lw_c13 {g : gX} {b L : Nat} {xs : Nat → Int32} {Qf : List Frame → Array Value → State → State → Prop} {V : vM} {i : Nat} (hi : i + 7 ≤ L) (hL : L ≤ 3584) (hR : RR V) (kk : ∀ W, RR W → YY g (jLw g b L xs) Qf W 1335 (lvL g b i) []) : YY g (jLw g b L xs) Qf V 615 (lvL g b i) [] := by
  refine x_aload_n dL_law_615 2 rfl ?_
  obtain ⟨Q, hM, hk⟩ := pr_load (g := g) hR 
  refine x_callV (K := jX9_load) [] lk_L_70 ⟨⟨rfl, rfl⟩, Nat.le_of_ble_eq_true rfl, Nat.le_of_ble_eq_true rfl⟩ rfl rfl hM rfl (Nat.le_of_ble_eq_true rfl) rfl dL_law_616 (fun r U hQ => ?_)
  obtain ⟨z, rfl, Q2, hM2, hk2⟩ := hk r U hQ
  show YY g (jLw g b L xs) Qf U 619 (lvL g b i) [.int z]
  refine x_aload_n dL_law_619 3 rfl ?_
  refine x_callV (K := jX10_load) [] lk_L_73 ⟨⟨rfl, rfl⟩, Nat.le_of_ble_eq_true rfl, Nat.le_of_ble_eq_true rfl⟩ rfl rfl hM2 rfl (Nat.le_of_ble_eq_true rfl) rfl dL_law_620 (fun r2 W hQ2 => ?_)
  obtain ⟨rfl, hRW⟩ := hk2 r2 W hQ2
  show YY g (jLw g b L xs) Qf W 623 (lvL g b i) [.int z, .int z]
  exact x_icmp_eq 1335 dL_law_623 (by decide) (fun _ => kk W hRW) (fun q => absurd rfl q)
set_option maxRecDepth 100000 in
set_option maxHeartbeats 1000000 in
theorem lw_c14 {g : gX} {b L : Nat} {xs : Nat → Int32} {Qf : List Frame → Array Value → State → State → Prop} {V : vM} {i : Nat} (hi : i + 7 ≤ L) (hL : L ≤ 3584) (hR : RR V) (kk : ∀ W, RR W → YY g (jLw g b L xs) Qf W 1335 (lvL g b i) []) : YY g (jLw g b L xs) Qf V 628 (lvL g b i) [] := by
  refine x_aload_n dL_law_628 2 rfl ?_
  refine x_aload_n dL_law_629 1 rfl ?_
  refine x_iload_n dL_law_630 0 rfl ?_
  refine x_iconst (v := 1) dL_law_631 (by decide) ?_
  refine x_iadd dL_law_632 ?_
  refine x_topi (y := nI (i + 1)) (nadd rfl (b := 1) rfl) ?_
  refine x_sld (vp_in_nI (by omega) (by omega)) dL_law_633 ?_
  obtain ⟨Q, hM, hk⟩ := pr_spell (g := g) hR (xs (nI (i + 1)).toNatClampNeg)
  refine x_callV (K := jX9_spell) [.int (xs (nI (i + 1)).toNatClampNeg)] lk_L_74 ⟨⟨rfl, rfl⟩, Nat.le_of_ble_eq_true rfl, Nat.le_of_ble_eq_true rfl⟩ rfl rfl hM rfl (Nat.le_of_ble_eq_true rfl) rfl dL_law_634 (fun r U hQ => ?_)
  obtain ⟨z, rfl, Q2, hM2, hk2⟩ := hk r U hQ
  show YY g (jLw g b L xs) Qf U 637 (lvL g b i) [.int z]
  refine x_aload_n dL_law_637 3 rfl ?_
  refine x_aload_n dL_law_638 1 rfl ?_
  refine x_iload_n dL_law_639 0 rfl ?_
  refine x_iconst (v := 1) dL_law_640 (by decide) ?_
  refine x_iadd dL_law_641 ?_
  refine x_topi (y := nI (i + 1)) (nadd rfl (b := 1) rfl) ?_
  refine x_sld (vp_in_nI (by omega) (by omega)) dL_law_642 ?_
  refine x_callV (K := jX10_spell) [.int (xs (nI (i + 1)).toNatClampNeg)] lk_L_77 ⟨⟨rfl, rfl⟩, Nat.le_of_ble_eq_true rfl, Nat.le_of_ble_eq_true rfl⟩ rfl rfl hM2 rfl (Nat.le_of_ble_eq_true rfl) rfl dL_law_643 (fun r2 W hQ2 => ?_)
  obtain ⟨rfl, hRW⟩ := hk2 r2 W hQ2
  show YY g (jLw g b L xs) Qf W 646 (lvL g b i) [.int z, .int z]
  exact x_icmp_eq 1335 dL_law_646 (by decide) (fun _ => kk W hRW) (fun q => absurd rfl q)
set_option maxRecDepth 100000 in
set_option maxHeartbeats 1000000 in
theorem lw_c15 {g : gX} {b L : Nat} {xs : Nat → Int32} {Qf : List Frame → Array Value → State → State → Prop} {V : vM} {i : Nat} (hi : i + 7 ≤ L) (hL : L ≤ 3584) (hR : RR V) (kk : ∀ W, RR W → YY g (jLw g b L xs) Qf W 1335 (lvL g b i) []) : YY g (jLw g b L xs) Qf V 651 (lvL g b i) [] := by
  refine x_aload_n dL_law_651 2 rfl ?_
  refine x_aload_n dL_law_652 1 rfl ?_
  refine x_iload_n dL_law_653 0 rfl ?_
  refine x_iconst (v := 1) dL_law_654 (by decide) ?_
  refine x_iadd dL_law_655 ?_
  refine x_topi (y := nI (i + 1)) (nadd rfl (b := 1) rfl) ?_
  refine x_sld (vp_in_nI (by omega) (by omega)) dL_law_656 ?_
  refine x_aload_n dL_law_657 1 rfl ?_
  refine x_iload_n dL_law_658 0 rfl ?_
  refine x_iconst (v := 2) dL_law_659 (by decide) ?_
  refine x_iadd dL_law_660 ?_
  refine x_topi (y := nI (i + 2)) (nadd rfl (b := 2) rfl) ?_
  refine x_sld (vp_in_nI (by omega) (by omega)) dL_law_661 ?_
  obtain ⟨Q, hM, hk⟩ := pr_measure (g := g) hR (xs (nI (i + 1)).toNatClampNeg) (xs (nI (i + 2)).toNatClampNeg)
  refine x_callV (K := jX9_measure) [.int (xs (nI (i + 1)).toNatClampNeg), .int (xs (nI (i + 2)).toNatClampNeg)] lk_L_78 ⟨⟨rfl, rfl⟩, Nat.le_of_ble_eq_true rfl, Nat.le_of_ble_eq_true rfl⟩ rfl rfl hM rfl (Nat.le_of_ble_eq_true rfl) rfl dL_law_662 (fun r U hQ => ?_)
  obtain ⟨z, rfl, Q2, hM2, hk2⟩ := hk r U hQ
  show YY g (jLw g b L xs) Qf U 665 (lvL g b i) [.int z]
  refine x_aload_n dL_law_665 3 rfl ?_
  refine x_aload_n dL_law_666 1 rfl ?_
  refine x_iload_n dL_law_667 0 rfl ?_
  refine x_iconst (v := 1) dL_law_668 (by decide) ?_
  refine x_iadd dL_law_669 ?_
  refine x_topi (y := nI (i + 1)) (nadd rfl (b := 1) rfl) ?_
  refine x_sld (vp_in_nI (by omega) (by omega)) dL_law_670 ?_
  refine x_aload_n dL_law_671 1 rfl ?_
  refine x_iload_n dL_law_672 0 rfl ?_
  refine x_iconst (v := 2) dL_law_673 (by decide) ?_
  refine x_iadd dL_law_674 ?_
  refine x_topi (y := nI (i + 2)) (nadd rfl (b := 2) rfl) ?_
  refine x_sld (vp_in_nI (by omega) (by omega)) dL_law_675 ?_
  refine x_callV (K := jX10_measure) [.int (xs (nI (i + 1)).toNatClampNeg), .int (xs (nI (i + 2)).toNatClampNeg)] lk_L_81 ⟨⟨rfl, rfl⟩, Nat.le_of_ble_eq_true rfl, Nat.le_of_ble_eq_true rfl⟩ rfl rfl hM2 rfl (Nat.le_of_ble_eq_true rfl) rfl dL_law_676 (fun r2 W hQ2 => ?_)
  obtain ⟨rfl, hRW⟩ := hk2 r2 W hQ2
  show YY g (jLw g b L xs) Qf W 679 (lvL g b i) [.int z, .int z]
  exact x_icmp_eq 1335 dL_law_679 (by decide) (fun _ => kk W hRW) (fun q => absurd rfl q)
set_option maxRecDepth 100000 in
set_option maxHeartbeats 1000000 in
theorem lw_c16 {g : gX} {b L : Nat} {xs : Nat → Int32} {Qf : List Frame → Array Value → State → State → Prop} {V : vM} {i : Nat} (hi : i + 7 ≤ L) (hL : L ≤ 3584) (hR : RR V) (kk : ∀ W, RR W → YY g (jLw g b L xs) Qf W 1335 (lvL g b i) []) : YY g (jLw g b L xs) Qf V 684 (lvL g b i) [] := by
  refine x_aload_n dL_law_684 2 rfl ?_
  refine x_aload_n dL_law_685 1 rfl ?_
  refine x_iload_n dL_law_686 0 rfl ?_
  refine x_iconst (v := 1) dL_law_687 (by decide) ?_
  refine x_iadd dL_law_688 ?_
  refine x_topi (y := nI (i + 1)) (nadd rfl (b := 1) rfl) ?_
  refine x_sld (vp_in_nI (by omega) (by omega)) dL_law_689 ?_
  refine x_aload_n dL_law_690 1 rfl ?_
  refine x_iload_n dL_law_691 0 rfl ?_
  refine x_iconst (v := 2) dL_law_692 (by decide) ?_
  refine x_iadd dL_law_693 ?_
  refine x_topi (y := nI (i + 2)) (nadd rfl (b := 2) rfl) ?_
  refine x_sld (vp_in_nI (by omega) (by omega)) dL_law_694 ?_
  refine x_aload_n dL_law_695 1 rfl ?_
  refine x_iload_n dL_law_696 0 rfl ?_
  refine x_iconst (v := 3) dL_law_697 (by decide) ?_
  refine x_iadd dL_law_698 ?_
  refine x_topi (y := nI (i + 3)) (nadd rfl (b := 3) rfl) ?_
  refine x_sld (vp_in_nI (by omega) (by omega)) dL_law_699 ?_
  obtain ⟨Q, hM, hk⟩ := pr_vertex (g := g) hR (xs (nI (i + 1)).toNatClampNeg) (xs (nI (i + 2)).toNatClampNeg) (xs (nI (i + 3)).toNatClampNeg)
  refine x_callV (K := jX9_vertex) [.int (xs (nI (i + 1)).toNatClampNeg), .int (xs (nI (i + 2)).toNatClampNeg), .int (xs (nI (i + 3)).toNatClampNeg)] lk_L_82 ⟨⟨rfl, rfl⟩, Nat.le_of_ble_eq_true rfl, Nat.le_of_ble_eq_true rfl⟩ rfl rfl hM rfl (Nat.le_of_ble_eq_true rfl) rfl dL_law_700 (fun r U hQ => ?_)
  obtain ⟨z, rfl, Q2, hM2, hk2⟩ := hk r U hQ
  show YY g (jLw g b L xs) Qf U 703 (lvL g b i) [.int z]
  refine x_aload_n dL_law_703 3 rfl ?_
  refine x_aload_n dL_law_704 1 rfl ?_
  refine x_iload_n dL_law_705 0 rfl ?_
  refine x_iconst (v := 1) dL_law_706 (by decide) ?_
  refine x_iadd dL_law_707 ?_
  refine x_topi (y := nI (i + 1)) (nadd rfl (b := 1) rfl) ?_
  refine x_sld (vp_in_nI (by omega) (by omega)) dL_law_708 ?_
  refine x_aload_n dL_law_709 1 rfl ?_
  refine x_iload_n dL_law_710 0 rfl ?_
  refine x_iconst (v := 2) dL_law_711 (by decide) ?_
  refine x_iadd dL_law_712 ?_
  refine x_topi (y := nI (i + 2)) (nadd rfl (b := 2) rfl) ?_
  refine x_sld (vp_in_nI (by omega) (by omega)) dL_law_713 ?_
  refine x_aload_n dL_law_714 1 rfl ?_
  refine x_iload_n dL_law_715 0 rfl ?_
  refine x_iconst (v := 3) dL_law_716 (by decide) ?_
  refine x_iadd dL_law_717 ?_
  refine x_topi (y := nI (i + 3)) (nadd rfl (b := 3) rfl) ?_
  refine x_sld (vp_in_nI (by omega) (by omega)) dL_law_718 ?_
  refine x_callV (K := jX10_vertex) [.int (xs (nI (i + 1)).toNatClampNeg), .int (xs (nI (i + 2)).toNatClampNeg), .int (xs (nI (i + 3)).toNatClampNeg)] lk_L_86 ⟨⟨rfl, rfl⟩, Nat.le_of_ble_eq_true rfl, Nat.le_of_ble_eq_true rfl⟩ rfl rfl hM2 rfl (Nat.le_of_ble_eq_true rfl) rfl dL_law_719 (fun r2 W hQ2 => ?_)
  obtain ⟨rfl, hRW⟩ := hk2 r2 W hQ2
  show YY g (jLw g b L xs) Qf W 722 (lvL g b i) [.int z, .int z]
  exact x_icmp_eq 1335 dL_law_722 (by decide) (fun _ => kk W hRW) (fun q => absurd rfl q)
set_option maxRecDepth 100000 in
set_option maxHeartbeats 1000000 in
theorem lw_c17 {g : gX} {b L : Nat} {xs : Nat → Int32} {Qf : List Frame → Array Value → State → State → Prop} {V : vM} {i : Nat} (hi : i + 7 ≤ L) (hL : L ≤ 3584) (hR : RR V) (kk : ∀ W, RR W → YY g (jLw g b L xs) Qf W 1335 (lvL g b i) []) : YY g (jLw g b L xs) Qf V 727 (lvL g b i) [] := by
  refine x_aload_n dL_law_727 2 rfl ?_
  refine x_aload_n dL_law_728 1 rfl ?_
  refine x_iload_n dL_law_729 0 rfl ?_
  refine x_iconst (v := 1) dL_law_730 (by decide) ?_
  refine x_iadd dL_law_731 ?_
  refine x_topi (y := nI (i + 1)) (nadd rfl (b := 1) rfl) ?_
  refine x_sld (vp_in_nI (by omega) (by omega)) dL_law_732 ?_
  refine x_aload_n dL_law_733 1 rfl ?_
  refine x_iload_n dL_law_734 0 rfl ?_
  refine x_iconst (v := 2) dL_law_735 (by decide) ?_
  refine x_iadd dL_law_736 ?_
  refine x_topi (y := nI (i + 2)) (nadd rfl (b := 2) rfl) ?_
  refine x_sld (vp_in_nI (by omega) (by omega)) dL_law_737 ?_
  refine x_aload_n dL_law_738 1 rfl ?_
  refine x_iload_n dL_law_739 0 rfl ?_
  refine x_iconst (v := 3) dL_law_740 (by decide) ?_
  refine x_iadd dL_law_741 ?_
  refine x_topi (y := nI (i + 3)) (nadd rfl (b := 3) rfl) ?_
  refine x_sld (vp_in_nI (by omega) (by omega)) dL_law_742 ?_
  obtain ⟨Q, hM, hk⟩ := pr_at (g := g) hR (xs (nI (i + 1)).toNatClampNeg) (xs (nI (i + 2)).toNatClampNeg) (xs (nI (i + 3)).toNatClampNeg)
  refine x_callV (K := jX9_at) [.int (xs (nI (i + 1)).toNatClampNeg), .int (xs (nI (i + 2)).toNatClampNeg), .int (xs (nI (i + 3)).toNatClampNeg)] lk_L_87 ⟨⟨rfl, rfl⟩, Nat.le_of_ble_eq_true rfl, Nat.le_of_ble_eq_true rfl⟩ rfl rfl hM rfl (Nat.le_of_ble_eq_true rfl) rfl dL_law_743 (fun r U hQ => ?_)
  obtain ⟨z, rfl, Q2, hM2, hk2⟩ := hk r U hQ
  show YY g (jLw g b L xs) Qf U 746 (lvL g b i) [.int z]
  refine x_aload_n dL_law_746 3 rfl ?_
  refine x_aload_n dL_law_747 1 rfl ?_
  refine x_iload_n dL_law_748 0 rfl ?_
  refine x_iconst (v := 1) dL_law_749 (by decide) ?_
  refine x_iadd dL_law_750 ?_
  refine x_topi (y := nI (i + 1)) (nadd rfl (b := 1) rfl) ?_
  refine x_sld (vp_in_nI (by omega) (by omega)) dL_law_751 ?_
  refine x_aload_n dL_law_752 1 rfl ?_
  refine x_iload_n dL_law_753 0 rfl ?_
  refine x_iconst (v := 2) dL_law_754 (by decide) ?_
  refine x_iadd dL_law_755 ?_
  refine x_topi (y := nI (i + 2)) (nadd rfl (b := 2) rfl) ?_
  refine x_sld (vp_in_nI (by omega) (by omega)) dL_law_756 ?_
  refine x_aload_n dL_law_757 1 rfl ?_
  refine x_iload_n dL_law_758 0 rfl ?_
  refine x_iconst (v := 3) dL_law_759 (by decide) ?_
  refine x_iadd dL_law_760 ?_
  refine x_topi (y := nI (i + 3)) (nadd rfl (b := 3) rfl) ?_
  refine x_sld (vp_in_nI (by omega) (by omega)) dL_law_761 ?_
  refine x_callV (K := jX10_at) [.int (xs (nI (i + 1)).toNatClampNeg), .int (xs (nI (i + 2)).toNatClampNeg), .int (xs (nI (i + 3)).toNatClampNeg)] lk_L_90 ⟨⟨rfl, rfl⟩, Nat.le_of_ble_eq_true rfl, Nat.le_of_ble_eq_true rfl⟩ rfl rfl hM2 rfl (Nat.le_of_ble_eq_true rfl) rfl dL_law_762 (fun r2 W hQ2 => ?_)
  obtain ⟨rfl, hRW⟩ := hk2 r2 W hQ2
  show YY g (jLw g b L xs) Qf W 765 (lvL g b i) [.int z, .int z]
  exact x_icmp_eq 1335 dL_law_765 (by decide) (fun _ => kk W hRW) (fun q => absurd rfl q)
set_option maxRecDepth 100000 in
set_option maxHeartbeats 1000000 in
theorem lw_c18 {g : gX} {b L : Nat} {xs : Nat → Int32} {Qf : List Frame → Array Value → State → State → Prop} {V : vM} {i : Nat} (hi : i + 7 ≤ L) (hL : L ≤ 3584) (hR : RR V) (kk : ∀ W, RR W → YY g (jLw g b L xs) Qf W 1335 (lvL g b i) []) : YY g (jLw g b L xs) Qf V 770 (lvL g b i) [] := by
  refine x_aload_n dL_law_770 2 rfl ?_
  refine x_aload_n dL_law_771 1 rfl ?_
  refine x_iload_n dL_law_772 0 rfl ?_
  refine x_iconst (v := 1) dL_law_773 (by decide) ?_
  refine x_iadd dL_law_774 ?_
  refine x_topi (y := nI (i + 1)) (nadd rfl (b := 1) rfl) ?_
  refine x_sld (vp_in_nI (by omega) (by omega)) dL_law_775 ?_
  refine x_aload_n dL_law_776 1 rfl ?_
  refine x_iload_n dL_law_777 0 rfl ?_
  refine x_iconst (v := 2) dL_law_778 (by decide) ?_
  refine x_iadd dL_law_779 ?_
  refine x_topi (y := nI (i + 2)) (nadd rfl (b := 2) rfl) ?_
  refine x_sld (vp_in_nI (by omega) (by omega)) dL_law_780 ?_
  refine x_aload_n dL_law_781 1 rfl ?_
  refine x_iload_n dL_law_782 0 rfl ?_
  refine x_iconst (v := 3) dL_law_783 (by decide) ?_
  refine x_iadd dL_law_784 ?_
  refine x_topi (y := nI (i + 3)) (nadd rfl (b := 3) rfl) ?_
  refine x_sld (vp_in_nI (by omega) (by omega)) dL_law_785 ?_
  obtain ⟨Q, hM, hk⟩ := pr_nearest (g := g) hR (xs (nI (i + 1)).toNatClampNeg) (xs (nI (i + 2)).toNatClampNeg) (xs (nI (i + 3)).toNatClampNeg)
  refine x_callV (K := jX9_nearest) [.int (xs (nI (i + 1)).toNatClampNeg), .int (xs (nI (i + 2)).toNatClampNeg), .int (xs (nI (i + 3)).toNatClampNeg)] lk_L_91 ⟨⟨rfl, rfl⟩, Nat.le_of_ble_eq_true rfl, Nat.le_of_ble_eq_true rfl⟩ rfl rfl hM rfl (Nat.le_of_ble_eq_true rfl) rfl dL_law_786 (fun r U hQ => ?_)
  obtain ⟨z, rfl, Q2, hM2, hk2⟩ := hk r U hQ
  show YY g (jLw g b L xs) Qf U 789 (lvL g b i) [.int z]
  refine x_aload_n dL_law_789 3 rfl ?_
  refine x_aload_n dL_law_790 1 rfl ?_
  refine x_iload_n dL_law_791 0 rfl ?_
  refine x_iconst (v := 1) dL_law_792 (by decide) ?_
  refine x_iadd dL_law_793 ?_
  refine x_topi (y := nI (i + 1)) (nadd rfl (b := 1) rfl) ?_
  refine x_sld (vp_in_nI (by omega) (by omega)) dL_law_794 ?_
  refine x_aload_n dL_law_795 1 rfl ?_
  refine x_iload_n dL_law_796 0 rfl ?_
  refine x_iconst (v := 2) dL_law_797 (by decide) ?_
  refine x_iadd dL_law_798 ?_
  refine x_topi (y := nI (i + 2)) (nadd rfl (b := 2) rfl) ?_
  refine x_sld (vp_in_nI (by omega) (by omega)) dL_law_799 ?_
  refine x_aload_n dL_law_800 1 rfl ?_
  refine x_iload_n dL_law_801 0 rfl ?_
  refine x_iconst (v := 3) dL_law_802 (by decide) ?_
  refine x_iadd dL_law_803 ?_
  refine x_topi (y := nI (i + 3)) (nadd rfl (b := 3) rfl) ?_
  refine x_sld (vp_in_nI (by omega) (by omega)) dL_law_804 ?_
  refine x_callV (K := jX10_nearest) [.int (xs (nI (i + 1)).toNatClampNeg), .int (xs (nI (i + 2)).toNatClampNeg), .int (xs (nI (i + 3)).toNatClampNeg)] lk_L_94 ⟨⟨rfl, rfl⟩, Nat.le_of_ble_eq_true rfl, Nat.le_of_ble_eq_true rfl⟩ rfl rfl hM2 rfl (Nat.le_of_ble_eq_true rfl) rfl dL_law_805 (fun r2 W hQ2 => ?_)
  obtain ⟨rfl, hRW⟩ := hk2 r2 W hQ2
  show YY g (jLw g b L xs) Qf W 808 (lvL g b i) [.int z, .int z]
  exact x_icmp_eq 1335 dL_law_808 (by decide) (fun _ => kk W hRW) (fun q => absurd rfl q)
set_option maxRecDepth 100000 in
set_option maxHeartbeats 1000000 in
theorem lw_c19 {g : gX} {b L : Nat} {xs : Nat → Int32} {Qf : List Frame → Array Value → State → State → Prop} {V : vM} {i : Nat} (hi : i + 7 ≤ L) (hL : L ≤ 3584) (hR : RR V) (kk : ∀ W, RR W → YY g (jLw g b L xs) Qf W 1335 (lvL g b i) []) : YY g (jLw g b L xs) Qf V 813 (lvL g b i) [] := by
  refine x_aload_n dL_law_813 2 rfl ?_
  refine x_aload_n dL_law_814 1 rfl ?_
  refine x_iload_n dL_law_815 0 rfl ?_
  refine x_iconst (v := 1) dL_law_816 (by decide) ?_
  refine x_iadd dL_law_817 ?_
  refine x_topi (y := nI (i + 1)) (nadd rfl (b := 1) rfl) ?_
  refine x_sld (vp_in_nI (by omega) (by omega)) dL_law_818 ?_
  refine x_aload_n dL_law_819 1 rfl ?_
  refine x_iload_n dL_law_820 0 rfl ?_
  refine x_iconst (v := 2) dL_law_821 (by decide) ?_
  refine x_iadd dL_law_822 ?_
  refine x_topi (y := nI (i + 2)) (nadd rfl (b := 2) rfl) ?_
  refine x_sld (vp_in_nI (by omega) (by omega)) dL_law_823 ?_
  obtain ⟨Q, hM, hk⟩ := pr_winding (g := g) hR (xs (nI (i + 1)).toNatClampNeg) (xs (nI (i + 2)).toNatClampNeg)
  refine x_callV (K := jX9_winding) [.int (xs (nI (i + 1)).toNatClampNeg), .int (xs (nI (i + 2)).toNatClampNeg)] lk_L_95 ⟨⟨rfl, rfl⟩, Nat.le_of_ble_eq_true rfl, Nat.le_of_ble_eq_true rfl⟩ rfl rfl hM rfl (Nat.le_of_ble_eq_true rfl) rfl dL_law_824 (fun r U hQ => ?_)
  obtain ⟨z, rfl, Q2, hM2, hk2⟩ := hk r U hQ
  show YY g (jLw g b L xs) Qf U 827 (lvL g b i) [.int z]
  refine x_aload_n dL_law_827 3 rfl ?_
  refine x_aload_n dL_law_828 1 rfl ?_
  refine x_iload_n dL_law_829 0 rfl ?_
  refine x_iconst (v := 1) dL_law_830 (by decide) ?_
  refine x_iadd dL_law_831 ?_
  refine x_topi (y := nI (i + 1)) (nadd rfl (b := 1) rfl) ?_
  refine x_sld (vp_in_nI (by omega) (by omega)) dL_law_832 ?_
  refine x_aload_n dL_law_833 1 rfl ?_
  refine x_iload_n dL_law_834 0 rfl ?_
  refine x_iconst (v := 2) dL_law_835 (by decide) ?_
  refine x_iadd dL_law_836 ?_
  refine x_topi (y := nI (i + 2)) (nadd rfl (b := 2) rfl) ?_
  refine x_sld (vp_in_nI (by omega) (by omega)) dL_law_837 ?_
  refine x_callV (K := jX10_winding) [.int (xs (nI (i + 1)).toNatClampNeg), .int (xs (nI (i + 2)).toNatClampNeg)] lk_L_98 ⟨⟨rfl, rfl⟩, Nat.le_of_ble_eq_true rfl, Nat.le_of_ble_eq_true rfl⟩ rfl rfl hM2 rfl (Nat.le_of_ble_eq_true rfl) rfl dL_law_838 (fun r2 W hQ2 => ?_)
  obtain ⟨rfl, hRW⟩ := hk2 r2 W hQ2
  show YY g (jLw g b L xs) Qf W 841 (lvL g b i) [.int z, .int z]
  exact x_icmp_eq 1335 dL_law_841 (by decide) (fun _ => kk W hRW) (fun q => absurd rfl q)
set_option maxRecDepth 100000 in
set_option maxHeartbeats 1000000 in
theorem lw_c20 {g : gX} {b L : Nat} {xs : Nat → Int32} {Qf : List Frame → Array Value → State → State → Prop} {V : vM} {i : Nat} (hi : i + 7 ≤ L) (hL : L ≤ 3584) (hR : RR V) (kk : ∀ W, RR W → YY g (jLw g b L xs) Qf W 1335 (lvL g b i) []) : YY g (jLw g b L xs) Qf V 846 (lvL g b i) [] := by
  refine x_aload_n dL_law_846 2 rfl ?_
  refine x_aload_n dL_law_847 1 rfl ?_
  refine x_iload_n dL_law_848 0 rfl ?_
  refine x_iconst (v := 1) dL_law_849 (by decide) ?_
  refine x_iadd dL_law_850 ?_
  refine x_topi (y := nI (i + 1)) (nadd rfl (b := 1) rfl) ?_
  refine x_sld (vp_in_nI (by omega) (by omega)) dL_law_851 ?_
  obtain ⟨Q, hM, hk⟩ := pr_area (g := g) hR (xs (nI (i + 1)).toNatClampNeg)
  refine x_callV (K := jX9_area) [.int (xs (nI (i + 1)).toNatClampNeg)] lk_L_99 ⟨⟨rfl, rfl⟩, Nat.le_of_ble_eq_true rfl, Nat.le_of_ble_eq_true rfl⟩ rfl rfl hM rfl (Nat.le_of_ble_eq_true rfl) rfl dL_law_852 (fun r U hQ => ?_)
  obtain ⟨z, rfl, Q2, hM2, hk2⟩ := hk r U hQ
  show YY g (jLw g b L xs) Qf U 855 (lvL g b i) [.long z]
  refine x_aload_n dL_law_855 3 rfl ?_
  refine x_aload_n dL_law_856 1 rfl ?_
  refine x_iload_n dL_law_857 0 rfl ?_
  refine x_iconst (v := 1) dL_law_858 (by decide) ?_
  refine x_iadd dL_law_859 ?_
  refine x_topi (y := nI (i + 1)) (nadd rfl (b := 1) rfl) ?_
  refine x_sld (vp_in_nI (by omega) (by omega)) dL_law_860 ?_
  refine x_callV (K := jX10_area) [.int (xs (nI (i + 1)).toNatClampNeg)] lk_L_103 ⟨⟨rfl, rfl⟩, Nat.le_of_ble_eq_true rfl, Nat.le_of_ble_eq_true rfl⟩ rfl rfl hM2 rfl (Nat.le_of_ble_eq_true rfl) rfl dL_law_861 (fun r2 W hQ2 => ?_)
  obtain ⟨rfl, hRW⟩ := hk2 r2 W hQ2
  show YY g (jLw g b L xs) Qf W 864 (lvL g b i) [.long z, .long z]
  refine x_lcmp dL_law_864 ?_
  refine x_topi (y := 0) (by unfold lg_cmp; simp) ?_
  exact x_if_eq 1335 dL_law_865 (by decide) (fun _ => kk W hRW) (fun q => absurd rfl q)
set_option maxRecDepth 100000 in
set_option maxHeartbeats 1000000 in
theorem lw_c21 {g : gX} {b L : Nat} {xs : Nat → Int32} {Qf : List Frame → Array Value → State → State → Prop} {V : vM} {i : Nat} (hi : i + 7 ≤ L) (hL : L ≤ 3584) (hR : RR V) (kk : ∀ W, RR W → YY g (jLw g b L xs) Qf W 1335 (lvL g b i) []) : YY g (jLw g b L xs) Qf V 870 (lvL g b i) [] := by
  refine x_aload_n dL_law_870 2 rfl ?_
  refine x_aload_n dL_law_871 1 rfl ?_
  refine x_iload_n dL_law_872 0 rfl ?_
  refine x_iconst (v := 1) dL_law_873 (by decide) ?_
  refine x_iadd dL_law_874 ?_
  refine x_topi (y := nI (i + 1)) (nadd rfl (b := 1) rfl) ?_
  refine x_sld (vp_in_nI (by omega) (by omega)) dL_law_875 ?_
  refine x_aload_n dL_law_876 1 rfl ?_
  refine x_iload_n dL_law_877 0 rfl ?_
  refine x_iconst (v := 2) dL_law_878 (by decide) ?_
  refine x_iadd dL_law_879 ?_
  refine x_topi (y := nI (i + 2)) (nadd rfl (b := 2) rfl) ?_
  refine x_sld (vp_in_nI (by omega) (by omega)) dL_law_880 ?_
  obtain ⟨Q, hM, hk⟩ := pr_bound (g := g) hR (xs (nI (i + 1)).toNatClampNeg) (xs (nI (i + 2)).toNatClampNeg)
  refine x_callV (K := jX9_bound) [.int (xs (nI (i + 1)).toNatClampNeg), .int (xs (nI (i + 2)).toNatClampNeg)] lk_L_104 ⟨⟨rfl, rfl⟩, Nat.le_of_ble_eq_true rfl, Nat.le_of_ble_eq_true rfl⟩ rfl rfl hM rfl (Nat.le_of_ble_eq_true rfl) rfl dL_law_881 (fun r U hQ => ?_)
  obtain ⟨z, rfl, Q2, hM2, hk2⟩ := hk r U hQ
  show YY g (jLw g b L xs) Qf U 884 (lvL g b i) [.int z]
  refine x_aload_n dL_law_884 3 rfl ?_
  refine x_aload_n dL_law_885 1 rfl ?_
  refine x_iload_n dL_law_886 0 rfl ?_
  refine x_iconst (v := 1) dL_law_887 (by decide) ?_
  refine x_iadd dL_law_888 ?_
  refine x_topi (y := nI (i + 1)) (nadd rfl (b := 1) rfl) ?_
  refine x_sld (vp_in_nI (by omega) (by omega)) dL_law_889 ?_
  refine x_aload_n dL_law_890 1 rfl ?_
  refine x_iload_n dL_law_891 0 rfl ?_
  refine x_iconst (v := 2) dL_law_892 (by decide) ?_
  refine x_iadd dL_law_893 ?_
  refine x_topi (y := nI (i + 2)) (nadd rfl (b := 2) rfl) ?_
  refine x_sld (vp_in_nI (by omega) (by omega)) dL_law_894 ?_
  refine x_callV (K := jX10_bound) [.int (xs (nI (i + 1)).toNatClampNeg), .int (xs (nI (i + 2)).toNatClampNeg)] lk_L_107 ⟨⟨rfl, rfl⟩, Nat.le_of_ble_eq_true rfl, Nat.le_of_ble_eq_true rfl⟩ rfl rfl hM2 rfl (Nat.le_of_ble_eq_true rfl) rfl dL_law_895 (fun r2 W hQ2 => ?_)
  obtain ⟨rfl, hRW⟩ := hk2 r2 W hQ2
  show YY g (jLw g b L xs) Qf W 898 (lvL g b i) [.int z, .int z]
  exact x_icmp_eq 1335 dL_law_898 (by decide) (fun _ => kk W hRW) (fun q => absurd rfl q)
set_option maxRecDepth 100000 in
set_option maxHeartbeats 1000000 in
theorem lw_c22 {g : gX} {b L : Nat} {xs : Nat → Int32} {Qf : List Frame → Array Value → State → State → Prop} {V : vM} {i : Nat} (hi : i + 7 ≤ L) (hL : L ≤ 3584) (hR : RR V) (kk : ∀ W, RR W → YY g (jLw g b L xs) Qf W 1335 (lvL g b i) []) : YY g (jLw g b L xs) Qf V 903 (lvL g b i) [] := by
  refine x_aload_n dL_law_903 2 rfl ?_
  refine x_aload_n dL_law_904 1 rfl ?_
  refine x_iload_n dL_law_905 0 rfl ?_
  refine x_iconst (v := 1) dL_law_906 (by decide) ?_
  refine x_iadd dL_law_907 ?_
  refine x_topi (y := nI (i + 1)) (nadd rfl (b := 1) rfl) ?_
  refine x_sld (vp_in_nI (by omega) (by omega)) dL_law_908 ?_
  refine x_aload_n dL_law_909 1 rfl ?_
  refine x_iload_n dL_law_910 0 rfl ?_
  refine x_iconst (v := 2) dL_law_911 (by decide) ?_
  refine x_iadd dL_law_912 ?_
  refine x_topi (y := nI (i + 2)) (nadd rfl (b := 2) rfl) ?_
  refine x_sld (vp_in_nI (by omega) (by omega)) dL_law_913 ?_
  refine x_aload_n dL_law_914 1 rfl ?_
  refine x_iload_n dL_law_915 0 rfl ?_
  refine x_iconst (v := 3) dL_law_916 (by decide) ?_
  refine x_iadd dL_law_917 ?_
  refine x_topi (y := nI (i + 3)) (nadd rfl (b := 3) rfl) ?_
  refine x_sld (vp_in_nI (by omega) (by omega)) dL_law_918 ?_
  obtain ⟨Q, hM, hk⟩ := pr_simplified (g := g) hR (xs (nI (i + 1)).toNatClampNeg) (xs (nI (i + 2)).toNatClampNeg) (xs (nI (i + 3)).toNatClampNeg)
  refine x_callV (K := jX9_simplified) [.int (xs (nI (i + 1)).toNatClampNeg), .int (xs (nI (i + 2)).toNatClampNeg), .int (xs (nI (i + 3)).toNatClampNeg)] lk_L_108 ⟨⟨rfl, rfl⟩, Nat.le_of_ble_eq_true rfl, Nat.le_of_ble_eq_true rfl⟩ rfl rfl hM rfl (Nat.le_of_ble_eq_true rfl) rfl dL_law_919 (fun r U hQ => ?_)
  obtain ⟨z, rfl, Q2, hM2, hk2⟩ := hk r U hQ
  show YY g (jLw g b L xs) Qf U 922 (lvL g b i) [.int z]
  refine x_aload_n dL_law_922 3 rfl ?_
  refine x_aload_n dL_law_923 1 rfl ?_
  refine x_iload_n dL_law_924 0 rfl ?_
  refine x_iconst (v := 1) dL_law_925 (by decide) ?_
  refine x_iadd dL_law_926 ?_
  refine x_topi (y := nI (i + 1)) (nadd rfl (b := 1) rfl) ?_
  refine x_sld (vp_in_nI (by omega) (by omega)) dL_law_927 ?_
  refine x_aload_n dL_law_928 1 rfl ?_
  refine x_iload_n dL_law_929 0 rfl ?_
  refine x_iconst (v := 2) dL_law_930 (by decide) ?_
  refine x_iadd dL_law_931 ?_
  refine x_topi (y := nI (i + 2)) (nadd rfl (b := 2) rfl) ?_
  refine x_sld (vp_in_nI (by omega) (by omega)) dL_law_932 ?_
  refine x_aload_n dL_law_933 1 rfl ?_
  refine x_iload_n dL_law_934 0 rfl ?_
  refine x_iconst (v := 3) dL_law_935 (by decide) ?_
  refine x_iadd dL_law_936 ?_
  refine x_topi (y := nI (i + 3)) (nadd rfl (b := 3) rfl) ?_
  refine x_sld (vp_in_nI (by omega) (by omega)) dL_law_937 ?_
  refine x_callV (K := jX10_simplified) [.int (xs (nI (i + 1)).toNatClampNeg), .int (xs (nI (i + 2)).toNatClampNeg), .int (xs (nI (i + 3)).toNatClampNeg)] lk_L_111 ⟨⟨rfl, rfl⟩, Nat.le_of_ble_eq_true rfl, Nat.le_of_ble_eq_true rfl⟩ rfl rfl hM2 rfl (Nat.le_of_ble_eq_true rfl) rfl dL_law_938 (fun r2 W hQ2 => ?_)
  obtain ⟨rfl, hRW⟩ := hk2 r2 W hQ2
  show YY g (jLw g b L xs) Qf W 941 (lvL g b i) [.int z, .int z]
  exact x_icmp_eq 1335 dL_law_941 (by decide) (fun _ => kk W hRW) (fun q => absurd rfl q)
set_option maxRecDepth 100000 in
set_option maxHeartbeats 1000000 in
theorem lw_c23 {g : gX} {b L : Nat} {xs : Nat → Int32} {Qf : List Frame → Array Value → State → State → Prop} {V : vM} {i : Nat} (hi : i + 7 ≤ L) (hL : L ≤ 3584) (hR : RR V) (kk : ∀ W, RR W → YY g (jLw g b L xs) Qf W 1335 (lvL g b i) []) : YY g (jLw g b L xs) Qf V 946 (lvL g b i) [] := by
  refine x_aload_n dL_law_946 2 rfl ?_
  refine x_aload_n dL_law_947 1 rfl ?_
  refine x_iload_n dL_law_948 0 rfl ?_
  refine x_iconst (v := 1) dL_law_949 (by decide) ?_
  refine x_iadd dL_law_950 ?_
  refine x_topi (y := nI (i + 1)) (nadd rfl (b := 1) rfl) ?_
  refine x_sld (vp_in_nI (by omega) (by omega)) dL_law_951 ?_
  obtain ⟨Q, hM, hk⟩ := pr_addDash (g := g) hR (xs (nI (i + 1)).toNatClampNeg)
  refine x_callV (K := jX9_addDash) [.int (xs (nI (i + 1)).toNatClampNeg)] lk_L_112 ⟨⟨rfl, rfl⟩, Nat.le_of_ble_eq_true rfl, Nat.le_of_ble_eq_true rfl⟩ rfl rfl hM rfl (Nat.le_of_ble_eq_true rfl) rfl dL_law_952 (fun r U hQ => ?_)
  obtain ⟨z, rfl, Q2, hM2, hk2⟩ := hk r U hQ
  show YY g (jLw g b L xs) Qf U 955 (lvL g b i) [.int z]
  refine x_aload_n dL_law_955 3 rfl ?_
  refine x_aload_n dL_law_956 1 rfl ?_
  refine x_iload_n dL_law_957 0 rfl ?_
  refine x_iconst (v := 1) dL_law_958 (by decide) ?_
  refine x_iadd dL_law_959 ?_
  refine x_topi (y := nI (i + 1)) (nadd rfl (b := 1) rfl) ?_
  refine x_sld (vp_in_nI (by omega) (by omega)) dL_law_960 ?_
  refine x_callV (K := jX10_addDash) [.int (xs (nI (i + 1)).toNatClampNeg)] lk_L_115 ⟨⟨rfl, rfl⟩, Nat.le_of_ble_eq_true rfl, Nat.le_of_ble_eq_true rfl⟩ rfl rfl hM2 rfl (Nat.le_of_ble_eq_true rfl) rfl dL_law_961 (fun r2 W hQ2 => ?_)
  obtain ⟨rfl, hRW⟩ := hk2 r2 W hQ2
  show YY g (jLw g b L xs) Qf W 964 (lvL g b i) [.int z, .int z]
  exact x_icmp_eq 1335 dL_law_964 (by decide) (fun _ => kk W hRW) (fun q => absurd rfl q)
set_option maxRecDepth 100000 in
set_option maxHeartbeats 1000000 in
theorem lw_c24 {g : gX} {b L : Nat} {xs : Nat → Int32} {Qf : List Frame → Array Value → State → State → Prop} {V : vM} {i : Nat} (hi : i + 7 ≤ L) (hL : L ≤ 3584) (hR : RR V) (kk : ∀ W, RR W → YY g (jLw g b L xs) Qf W 1335 (lvL g b i) []) : YY g (jLw g b L xs) Qf V 969 (lvL g b i) [] := by
  refine x_aload_n dL_law_969 2 rfl ?_
  refine x_aload_n dL_law_970 1 rfl ?_
  refine x_iload_n dL_law_971 0 rfl ?_
  refine x_iconst (v := 1) dL_law_972 (by decide) ?_
  refine x_iadd dL_law_973 ?_
  refine x_topi (y := nI (i + 1)) (nadd rfl (b := 1) rfl) ?_
  refine x_sld (vp_in_nI (by omega) (by omega)) dL_law_974 ?_
  obtain ⟨Q, hM, hk⟩ := pr_clearDashes (g := g) hR (xs (nI (i + 1)).toNatClampNeg)
  refine x_callV (K := jX9_clearDashes) [.int (xs (nI (i + 1)).toNatClampNeg)] lk_L_116 ⟨⟨rfl, rfl⟩, Nat.le_of_ble_eq_true rfl, Nat.le_of_ble_eq_true rfl⟩ rfl rfl hM rfl (Nat.le_of_ble_eq_true rfl) rfl dL_law_975 (fun r U hQ => ?_)
  obtain ⟨z, rfl, Q2, hM2, hk2⟩ := hk r U hQ
  show YY g (jLw g b L xs) Qf U 978 (lvL g b i) [.int z]
  refine x_aload_n dL_law_978 3 rfl ?_
  refine x_aload_n dL_law_979 1 rfl ?_
  refine x_iload_n dL_law_980 0 rfl ?_
  refine x_iconst (v := 1) dL_law_981 (by decide) ?_
  refine x_iadd dL_law_982 ?_
  refine x_topi (y := nI (i + 1)) (nadd rfl (b := 1) rfl) ?_
  refine x_sld (vp_in_nI (by omega) (by omega)) dL_law_983 ?_
  refine x_callV (K := jX10_clearDashes) [.int (xs (nI (i + 1)).toNatClampNeg)] lk_L_119 ⟨⟨rfl, rfl⟩, Nat.le_of_ble_eq_true rfl, Nat.le_of_ble_eq_true rfl⟩ rfl rfl hM2 rfl (Nat.le_of_ble_eq_true rfl) rfl dL_law_984 (fun r2 W hQ2 => ?_)
  obtain ⟨rfl, hRW⟩ := hk2 r2 W hQ2
  show YY g (jLw g b L xs) Qf W 987 (lvL g b i) [.int z, .int z]
  exact x_icmp_eq 1335 dL_law_987 (by decide) (fun _ => kk W hRW) (fun q => absurd rfl q)
set_option maxRecDepth 100000 in
set_option maxHeartbeats 1000000 in
theorem lw_c25 {g : gX} {b L : Nat} {xs : Nat → Int32} {Qf : List Frame → Array Value → State → State → Prop} {V : vM} {i : Nat} (hi : i + 7 ≤ L) (hL : L ≤ 3584) (hR : RR V) (kk : ∀ W, RR W → YY g (jLw g b L xs) Qf W 1335 (lvL g b i) []) : YY g (jLw g b L xs) Qf V 992 (lvL g b i) [] := by
  refine x_aload_n dL_law_992 2 rfl ?_
  refine x_aload_n dL_law_993 1 rfl ?_
  refine x_iload_n dL_law_994 0 rfl ?_
  refine x_iconst (v := 1) dL_law_995 (by decide) ?_
  refine x_iadd dL_law_996 ?_
  refine x_topi (y := nI (i + 1)) (nadd rfl (b := 1) rfl) ?_
  refine x_sld (vp_in_nI (by omega) (by omega)) dL_law_997 ?_
  refine x_aload_n dL_law_998 1 rfl ?_
  refine x_iload_n dL_law_999 0 rfl ?_
  refine x_iconst (v := 2) dL_law_1000 (by decide) ?_
  refine x_iadd dL_law_1001 ?_
  refine x_topi (y := nI (i + 2)) (nadd rfl (b := 2) rfl) ?_
  refine x_sld (vp_in_nI (by omega) (by omega)) dL_law_1002 ?_
  refine x_aload_n dL_law_1003 1 rfl ?_
  refine x_iload_n dL_law_1004 0 rfl ?_
  refine x_iconst (v := 3) dL_law_1005 (by decide) ?_
  refine x_iadd dL_law_1006 ?_
  refine x_topi (y := nI (i + 3)) (nadd rfl (b := 3) rfl) ?_
  refine x_sld (vp_in_nI (by omega) (by omega)) dL_law_1007 ?_
  obtain ⟨Q, hM, hk⟩ := pr_dash (g := g) hR (xs (nI (i + 1)).toNatClampNeg) (xs (nI (i + 2)).toNatClampNeg) (xs (nI (i + 3)).toNatClampNeg)
  refine x_callV (K := jX9_dash) [.int (xs (nI (i + 1)).toNatClampNeg), .int (xs (nI (i + 2)).toNatClampNeg), .int (xs (nI (i + 3)).toNatClampNeg)] lk_L_120 ⟨⟨rfl, rfl⟩, Nat.le_of_ble_eq_true rfl, Nat.le_of_ble_eq_true rfl⟩ rfl rfl hM rfl (Nat.le_of_ble_eq_true rfl) rfl dL_law_1008 (fun r U hQ => ?_)
  obtain ⟨z, rfl, Q2, hM2, hk2⟩ := hk r U hQ
  show YY g (jLw g b L xs) Qf U 1011 (lvL g b i) [.int z]
  refine x_aload_n dL_law_1011 3 rfl ?_
  refine x_aload_n dL_law_1012 1 rfl ?_
  refine x_iload_n dL_law_1013 0 rfl ?_
  refine x_iconst (v := 1) dL_law_1014 (by decide) ?_
  refine x_iadd dL_law_1015 ?_
  refine x_topi (y := nI (i + 1)) (nadd rfl (b := 1) rfl) ?_
  refine x_sld (vp_in_nI (by omega) (by omega)) dL_law_1016 ?_
  refine x_aload_n dL_law_1017 1 rfl ?_
  refine x_iload_n dL_law_1018 0 rfl ?_
  refine x_iconst (v := 2) dL_law_1019 (by decide) ?_
  refine x_iadd dL_law_1020 ?_
  refine x_topi (y := nI (i + 2)) (nadd rfl (b := 2) rfl) ?_
  refine x_sld (vp_in_nI (by omega) (by omega)) dL_law_1021 ?_
  refine x_aload_n dL_law_1022 1 rfl ?_
  refine x_iload_n dL_law_1023 0 rfl ?_
  refine x_iconst (v := 3) dL_law_1024 (by decide) ?_
  refine x_iadd dL_law_1025 ?_
  refine x_topi (y := nI (i + 3)) (nadd rfl (b := 3) rfl) ?_
  refine x_sld (vp_in_nI (by omega) (by omega)) dL_law_1026 ?_
  refine x_callV (K := jX10_dash) [.int (xs (nI (i + 1)).toNatClampNeg), .int (xs (nI (i + 2)).toNatClampNeg), .int (xs (nI (i + 3)).toNatClampNeg)] lk_L_123 ⟨⟨rfl, rfl⟩, Nat.le_of_ble_eq_true rfl, Nat.le_of_ble_eq_true rfl⟩ rfl rfl hM2 rfl (Nat.le_of_ble_eq_true rfl) rfl dL_law_1027 (fun r2 W hQ2 => ?_)
  obtain ⟨rfl, hRW⟩ := hk2 r2 W hQ2
  show YY g (jLw g b L xs) Qf W 1030 (lvL g b i) [.int z, .int z]
  exact x_icmp_eq 1335 dL_law_1030 (by decide) (fun _ => kk W hRW) (fun q => absurd rfl q)
set_option maxRecDepth 100000 in
set_option maxHeartbeats 1000000 in
theorem lw_c26 {g : gX} {b L : Nat} {xs : Nat → Int32} {Qf : List Frame → Array Value → State → State → Prop} {V : vM} {i : Nat} (hi : i + 7 ≤ L) (hL : L ≤ 3584) (hR : RR V) (kk : ∀ W, RR W → YY g (jLw g b L xs) Qf W 1335 (lvL g b i) []) : YY g (jLw g b L xs) Qf V 1035 (lvL g b i) [] := by
  refine x_aload_n dL_law_1035 2 rfl ?_
  refine x_aload_n dL_law_1036 1 rfl ?_
  refine x_iload_n dL_law_1037 0 rfl ?_
  refine x_iconst (v := 1) dL_law_1038 (by decide) ?_
  refine x_iadd dL_law_1039 ?_
  refine x_topi (y := nI (i + 1)) (nadd rfl (b := 1) rfl) ?_
  refine x_sld (vp_in_nI (by omega) (by omega)) dL_law_1040 ?_
  refine x_aload_n dL_law_1041 1 rfl ?_
  refine x_iload_n dL_law_1042 0 rfl ?_
  refine x_iconst (v := 2) dL_law_1043 (by decide) ?_
  refine x_iadd dL_law_1044 ?_
  refine x_topi (y := nI (i + 2)) (nadd rfl (b := 2) rfl) ?_
  refine x_sld (vp_in_nI (by omega) (by omega)) dL_law_1045 ?_
  obtain ⟨Q, hM, hk⟩ := pr_setWidth (g := g) hR (xs (nI (i + 1)).toNatClampNeg) (xs (nI (i + 2)).toNatClampNeg)
  refine x_callV (K := jX9_setWidth) [.int (xs (nI (i + 1)).toNatClampNeg), .int (xs (nI (i + 2)).toNatClampNeg)] lk_L_124 ⟨⟨rfl, rfl⟩, Nat.le_of_ble_eq_true rfl, Nat.le_of_ble_eq_true rfl⟩ rfl rfl hM rfl (Nat.le_of_ble_eq_true rfl) rfl dL_law_1046 (fun r U hQ => ?_)
  obtain ⟨z, rfl, Q2, hM2, hk2⟩ := hk r U hQ
  show YY g (jLw g b L xs) Qf U 1049 (lvL g b i) [.int z]
  refine x_aload_n dL_law_1049 3 rfl ?_
  refine x_aload_n dL_law_1050 1 rfl ?_
  refine x_iload_n dL_law_1051 0 rfl ?_
  refine x_iconst (v := 1) dL_law_1052 (by decide) ?_
  refine x_iadd dL_law_1053 ?_
  refine x_topi (y := nI (i + 1)) (nadd rfl (b := 1) rfl) ?_
  refine x_sld (vp_in_nI (by omega) (by omega)) dL_law_1054 ?_
  refine x_aload_n dL_law_1055 1 rfl ?_
  refine x_iload_n dL_law_1056 0 rfl ?_
  refine x_iconst (v := 2) dL_law_1057 (by decide) ?_
  refine x_iadd dL_law_1058 ?_
  refine x_topi (y := nI (i + 2)) (nadd rfl (b := 2) rfl) ?_
  refine x_sld (vp_in_nI (by omega) (by omega)) dL_law_1059 ?_
  refine x_callV (K := jX10_setWidth) [.int (xs (nI (i + 1)).toNatClampNeg), .int (xs (nI (i + 2)).toNatClampNeg)] lk_L_127 ⟨⟨rfl, rfl⟩, Nat.le_of_ble_eq_true rfl, Nat.le_of_ble_eq_true rfl⟩ rfl rfl hM2 rfl (Nat.le_of_ble_eq_true rfl) rfl dL_law_1060 (fun r2 W hQ2 => ?_)
  obtain ⟨rfl, hRW⟩ := hk2 r2 W hQ2
  show YY g (jLw g b L xs) Qf W 1063 (lvL g b i) [.int z, .int z]
  exact x_icmp_eq 1335 dL_law_1063 (by decide) (fun _ => kk W hRW) (fun q => absurd rfl q)
set_option maxRecDepth 100000 in
set_option maxHeartbeats 1000000 in
theorem lw_c27 {g : gX} {b L : Nat} {xs : Nat → Int32} {Qf : List Frame → Array Value → State → State → Prop} {V : vM} {i : Nat} (hi : i + 7 ≤ L) (hL : L ≤ 3584) (hR : RR V) (kk : ∀ W, RR W → YY g (jLw g b L xs) Qf W 1335 (lvL g b i) []) : YY g (jLw g b L xs) Qf V 1068 (lvL g b i) [] := by
  refine x_aload_n dL_law_1068 2 rfl ?_
  refine x_aload_n dL_law_1069 1 rfl ?_
  refine x_iload_n dL_law_1070 0 rfl ?_
  refine x_iconst (v := 1) dL_law_1071 (by decide) ?_
  refine x_iadd dL_law_1072 ?_
  refine x_topi (y := nI (i + 1)) (nadd rfl (b := 1) rfl) ?_
  refine x_sld (vp_in_nI (by omega) (by omega)) dL_law_1073 ?_
  refine x_aload_n dL_law_1074 1 rfl ?_
  refine x_iload_n dL_law_1075 0 rfl ?_
  refine x_iconst (v := 2) dL_law_1076 (by decide) ?_
  refine x_iadd dL_law_1077 ?_
  refine x_topi (y := nI (i + 2)) (nadd rfl (b := 2) rfl) ?_
  refine x_sld (vp_in_nI (by omega) (by omega)) dL_law_1078 ?_
  refine x_aload_n dL_law_1079 1 rfl ?_
  refine x_iload_n dL_law_1080 0 rfl ?_
  refine x_iconst (v := 3) dL_law_1081 (by decide) ?_
  refine x_iadd dL_law_1082 ?_
  refine x_topi (y := nI (i + 3)) (nadd rfl (b := 3) rfl) ?_
  refine x_sld (vp_in_nI (by omega) (by omega)) dL_law_1083 ?_
  obtain ⟨Q, hM, hk⟩ := pr_setKerning (g := g) hR (xs (nI (i + 1)).toNatClampNeg) (xs (nI (i + 2)).toNatClampNeg) (xs (nI (i + 3)).toNatClampNeg)
  refine x_callV (K := jX9_setKerning) [.int (xs (nI (i + 1)).toNatClampNeg), .int (xs (nI (i + 2)).toNatClampNeg), .int (xs (nI (i + 3)).toNatClampNeg)] lk_L_128 ⟨⟨rfl, rfl⟩, Nat.le_of_ble_eq_true rfl, Nat.le_of_ble_eq_true rfl⟩ rfl rfl hM rfl (Nat.le_of_ble_eq_true rfl) rfl dL_law_1084 (fun r U hQ => ?_)
  obtain ⟨z, rfl, Q2, hM2, hk2⟩ := hk r U hQ
  show YY g (jLw g b L xs) Qf U 1087 (lvL g b i) [.int z]
  refine x_aload_n dL_law_1087 3 rfl ?_
  refine x_aload_n dL_law_1088 1 rfl ?_
  refine x_iload_n dL_law_1089 0 rfl ?_
  refine x_iconst (v := 1) dL_law_1090 (by decide) ?_
  refine x_iadd dL_law_1091 ?_
  refine x_topi (y := nI (i + 1)) (nadd rfl (b := 1) rfl) ?_
  refine x_sld (vp_in_nI (by omega) (by omega)) dL_law_1092 ?_
  refine x_aload_n dL_law_1093 1 rfl ?_
  refine x_iload_n dL_law_1094 0 rfl ?_
  refine x_iconst (v := 2) dL_law_1095 (by decide) ?_
  refine x_iadd dL_law_1096 ?_
  refine x_topi (y := nI (i + 2)) (nadd rfl (b := 2) rfl) ?_
  refine x_sld (vp_in_nI (by omega) (by omega)) dL_law_1097 ?_
  refine x_aload_n dL_law_1098 1 rfl ?_
  refine x_iload_n dL_law_1099 0 rfl ?_
  refine x_iconst (v := 3) dL_law_1100 (by decide) ?_
  refine x_iadd dL_law_1101 ?_
  refine x_topi (y := nI (i + 3)) (nadd rfl (b := 3) rfl) ?_
  refine x_sld (vp_in_nI (by omega) (by omega)) dL_law_1102 ?_
  refine x_callV (K := jX10_setKerning) [.int (xs (nI (i + 1)).toNatClampNeg), .int (xs (nI (i + 2)).toNatClampNeg), .int (xs (nI (i + 3)).toNatClampNeg)] lk_L_131 ⟨⟨rfl, rfl⟩, Nat.le_of_ble_eq_true rfl, Nat.le_of_ble_eq_true rfl⟩ rfl rfl hM2 rfl (Nat.le_of_ble_eq_true rfl) rfl dL_law_1103 (fun r2 W hQ2 => ?_)
  obtain ⟨rfl, hRW⟩ := hk2 r2 W hQ2
  show YY g (jLw g b L xs) Qf W 1106 (lvL g b i) [.int z, .int z]
  exact x_icmp_eq 1335 dL_law_1106 (by decide) (fun _ => kk W hRW) (fun q => absurd rfl q)
set_option maxRecDepth 100000 in
set_option maxHeartbeats 1000000 in
theorem lw_c28 {g : gX} {b L : Nat} {xs : Nat → Int32} {Qf : List Frame → Array Value → State → State → Prop} {V : vM} {i : Nat} (hi : i + 7 ≤ L) (hL : L ≤ 3584) (hR : RR V) (kk : ∀ W, RR W → YY g (jLw g b L xs) Qf W 1335 (lvL g b i) []) : YY g (jLw g b L xs) Qf V 1111 (lvL g b i) [] := by
  refine x_aload_n dL_law_1111 2 rfl ?_
  refine x_aload_n dL_law_1112 1 rfl ?_
  refine x_iload_n dL_law_1113 0 rfl ?_
  refine x_iconst (v := 1) dL_law_1114 (by decide) ?_
  refine x_iadd dL_law_1115 ?_
  refine x_topi (y := nI (i + 1)) (nadd rfl (b := 1) rfl) ?_
  refine x_sld (vp_in_nI (by omega) (by omega)) dL_law_1116 ?_
  obtain ⟨Q, hM, hk⟩ := pr_write (g := g) hR (xs (nI (i + 1)).toNatClampNeg)
  refine x_callV (K := jX9_write) [.int (xs (nI (i + 1)).toNatClampNeg)] lk_L_132 ⟨⟨rfl, rfl⟩, Nat.le_of_ble_eq_true rfl, Nat.le_of_ble_eq_true rfl⟩ rfl rfl hM rfl (Nat.le_of_ble_eq_true rfl) rfl dL_law_1117 (fun r U hQ => ?_)
  obtain ⟨z, rfl, Q2, hM2, hk2⟩ := hk r U hQ
  show YY g (jLw g b L xs) Qf U 1120 (lvL g b i) [.int z]
  refine x_aload_n dL_law_1120 3 rfl ?_
  refine x_aload_n dL_law_1121 1 rfl ?_
  refine x_iload_n dL_law_1122 0 rfl ?_
  refine x_iconst (v := 1) dL_law_1123 (by decide) ?_
  refine x_iadd dL_law_1124 ?_
  refine x_topi (y := nI (i + 1)) (nadd rfl (b := 1) rfl) ?_
  refine x_sld (vp_in_nI (by omega) (by omega)) dL_law_1125 ?_
  refine x_callV (K := jX10_write) [.int (xs (nI (i + 1)).toNatClampNeg)] lk_L_135 ⟨⟨rfl, rfl⟩, Nat.le_of_ble_eq_true rfl, Nat.le_of_ble_eq_true rfl⟩ rfl rfl hM2 rfl (Nat.le_of_ble_eq_true rfl) rfl dL_law_1126 (fun r2 W hQ2 => ?_)
  obtain ⟨rfl, hRW⟩ := hk2 r2 W hQ2
  show YY g (jLw g b L xs) Qf W 1129 (lvL g b i) [.int z, .int z]
  exact x_icmp_eq 1335 dL_law_1129 (by decide) (fun _ => kk W hRW) (fun q => absurd rfl q)
set_option maxRecDepth 100000 in
set_option maxHeartbeats 1000000 in
theorem lw_c29 {g : gX} {b L : Nat} {xs : Nat → Int32} {Qf : List Frame → Array Value → State → State → Prop} {V : vM} {i : Nat} (hi : i + 7 ≤ L) (hL : L ≤ 3584) (hR : RR V) (kk : ∀ W, RR W → YY g (jLw g b L xs) Qf W 1335 (lvL g b i) []) : YY g (jLw g b L xs) Qf V 1134 (lvL g b i) [] := by
  refine x_aload_n dL_law_1134 2 rfl ?_
  obtain ⟨Q, hM, hk⟩ := pr_erase (g := g) hR 
  refine x_callV (K := jX9_erase) [] lk_L_136 ⟨⟨rfl, rfl⟩, Nat.le_of_ble_eq_true rfl, Nat.le_of_ble_eq_true rfl⟩ rfl rfl hM rfl (Nat.le_of_ble_eq_true rfl) rfl dL_law_1135 (fun r U hQ => ?_)
  obtain ⟨z, rfl, Q2, hM2, hk2⟩ := hk r U hQ
  show YY g (jLw g b L xs) Qf U 1138 (lvL g b i) [.int z]
  refine x_aload_n dL_law_1138 3 rfl ?_
  refine x_callV (K := jX10_erase) [] lk_L_139 ⟨⟨rfl, rfl⟩, Nat.le_of_ble_eq_true rfl, Nat.le_of_ble_eq_true rfl⟩ rfl rfl hM2 rfl (Nat.le_of_ble_eq_true rfl) rfl dL_law_1139 (fun r2 W hQ2 => ?_)
  obtain ⟨rfl, hRW⟩ := hk2 r2 W hQ2
  show YY g (jLw g b L xs) Qf W 1142 (lvL g b i) [.int z, .int z]
  exact x_icmp_eq 1335 dL_law_1142 (by decide) (fun _ => kk W hRW) (fun q => absurd rfl q)
set_option maxRecDepth 100000 in
set_option maxHeartbeats 1000000 in
theorem lw_c30 {g : gX} {b L : Nat} {xs : Nat → Int32} {Qf : List Frame → Array Value → State → State → Prop} {V : vM} {i : Nat} (hi : i + 7 ≤ L) (hL : L ≤ 3584) (hR : RR V) (kk : ∀ W, RR W → YY g (jLw g b L xs) Qf W 1335 (lvL g b i) []) : YY g (jLw g b L xs) Qf V 1147 (lvL g b i) [] := by
  refine x_aload_n dL_law_1147 2 rfl ?_
  refine x_aload_n dL_law_1148 1 rfl ?_
  refine x_iload_n dL_law_1149 0 rfl ?_
  refine x_iconst (v := 1) dL_law_1150 (by decide) ?_
  refine x_iadd dL_law_1151 ?_
  refine x_topi (y := nI (i + 1)) (nadd rfl (b := 1) rfl) ?_
  refine x_sld (vp_in_nI (by omega) (by omega)) dL_law_1152 ?_
  refine x_aload_n dL_law_1153 1 rfl ?_
  refine x_iload_n dL_law_1154 0 rfl ?_
  refine x_iconst (v := 2) dL_law_1155 (by decide) ?_
  refine x_iadd dL_law_1156 ?_
  refine x_topi (y := nI (i + 2)) (nadd rfl (b := 2) rfl) ?_
  refine x_sld (vp_in_nI (by omega) (by omega)) dL_law_1157 ?_
  refine x_aload_n dL_law_1158 1 rfl ?_
  refine x_iload_n dL_law_1159 0 rfl ?_
  refine x_iconst (v := 3) dL_law_1160 (by decide) ?_
  refine x_iadd dL_law_1161 ?_
  refine x_topi (y := nI (i + 3)) (nadd rfl (b := 3) rfl) ?_
  refine x_sld (vp_in_nI (by omega) (by omega)) dL_law_1162 ?_
  obtain ⟨Q, hM, hk⟩ := pr_arrange (g := g) hR (xs (nI (i + 1)).toNatClampNeg) (xs (nI (i + 2)).toNatClampNeg) (xs (nI (i + 3)).toNatClampNeg)
  refine x_callV (K := jX9_arrange) [.int (xs (nI (i + 1)).toNatClampNeg), .int (xs (nI (i + 2)).toNatClampNeg), .int (xs (nI (i + 3)).toNatClampNeg)] lk_L_140 ⟨⟨rfl, rfl⟩, Nat.le_of_ble_eq_true rfl, Nat.le_of_ble_eq_true rfl⟩ rfl rfl hM rfl (Nat.le_of_ble_eq_true rfl) rfl dL_law_1163 (fun r U hQ => ?_)
  obtain ⟨z, rfl, Q2, hM2, hk2⟩ := hk r U hQ
  show YY g (jLw g b L xs) Qf U 1166 (lvL g b i) [.int z]
  refine x_aload_n dL_law_1166 3 rfl ?_
  refine x_aload_n dL_law_1167 1 rfl ?_
  refine x_iload_n dL_law_1168 0 rfl ?_
  refine x_iconst (v := 1) dL_law_1169 (by decide) ?_
  refine x_iadd dL_law_1170 ?_
  refine x_topi (y := nI (i + 1)) (nadd rfl (b := 1) rfl) ?_
  refine x_sld (vp_in_nI (by omega) (by omega)) dL_law_1171 ?_
  refine x_aload_n dL_law_1172 1 rfl ?_
  refine x_iload_n dL_law_1173 0 rfl ?_
  refine x_iconst (v := 2) dL_law_1174 (by decide) ?_
  refine x_iadd dL_law_1175 ?_
  refine x_topi (y := nI (i + 2)) (nadd rfl (b := 2) rfl) ?_
  refine x_sld (vp_in_nI (by omega) (by omega)) dL_law_1176 ?_
  refine x_aload_n dL_law_1177 1 rfl ?_
  refine x_iload_n dL_law_1178 0 rfl ?_
  refine x_iconst (v := 3) dL_law_1179 (by decide) ?_
  refine x_iadd dL_law_1180 ?_
  refine x_topi (y := nI (i + 3)) (nadd rfl (b := 3) rfl) ?_
  refine x_sld (vp_in_nI (by omega) (by omega)) dL_law_1181 ?_
  refine x_callV (K := jX10_arrange) [.int (xs (nI (i + 1)).toNatClampNeg), .int (xs (nI (i + 2)).toNatClampNeg), .int (xs (nI (i + 3)).toNatClampNeg)] lk_L_143 ⟨⟨rfl, rfl⟩, Nat.le_of_ble_eq_true rfl, Nat.le_of_ble_eq_true rfl⟩ rfl rfl hM2 rfl (Nat.le_of_ble_eq_true rfl) rfl dL_law_1182 (fun r2 W hQ2 => ?_)
  obtain ⟨rfl, hRW⟩ := hk2 r2 W hQ2
  show YY g (jLw g b L xs) Qf W 1185 (lvL g b i) [.int z, .int z]
  exact x_icmp_eq 1335 dL_law_1185 (by decide) (fun _ => kk W hRW) (fun q => absurd rfl q)
set_option maxRecDepth 100000 in
set_option maxHeartbeats 1000000 in
theorem lw_c31 {g : gX} {b L : Nat} {xs : Nat → Int32} {Qf : List Frame → Array Value → State → State → Prop} {V : vM} {i : Nat} (hi : i + 7 ≤ L) (hL : L ≤ 3584) (hR : RR V) (kk : ∀ W, RR W → YY g (jLw g b L xs) Qf W 1335 (lvL g b i) []) : YY g (jLw g b L xs) Qf V 1190 (lvL g b i) [] := by
  refine x_aload_n dL_law_1190 2 rfl ?_
  refine x_aload_n dL_law_1191 1 rfl ?_
  refine x_iload_n dL_law_1192 0 rfl ?_
  refine x_iconst (v := 1) dL_law_1193 (by decide) ?_
  refine x_iadd dL_law_1194 ?_
  refine x_topi (y := nI (i + 1)) (nadd rfl (b := 1) rfl) ?_
  refine x_sld (vp_in_nI (by omega) (by omega)) dL_law_1195 ?_
  refine x_aload_n dL_law_1196 1 rfl ?_
  refine x_iload_n dL_law_1197 0 rfl ?_
  refine x_iconst (v := 2) dL_law_1198 (by decide) ?_
  refine x_iadd dL_law_1199 ?_
  refine x_topi (y := nI (i + 2)) (nadd rfl (b := 2) rfl) ?_
  refine x_sld (vp_in_nI (by omega) (by omega)) dL_law_1200 ?_
  refine x_aload_n dL_law_1201 1 rfl ?_
  refine x_iload_n dL_law_1202 0 rfl ?_
  refine x_iconst (v := 3) dL_law_1203 (by decide) ?_
  refine x_iadd dL_law_1204 ?_
  refine x_topi (y := nI (i + 3)) (nadd rfl (b := 3) rfl) ?_
  refine x_sld (vp_in_nI (by omega) (by omega)) dL_law_1205 ?_
  obtain ⟨Q, hM, hk⟩ := pr_letter (g := g) hR (xs (nI (i + 1)).toNatClampNeg) (xs (nI (i + 2)).toNatClampNeg) (xs (nI (i + 3)).toNatClampNeg)
  refine x_callV (K := jX9_letter) [.int (xs (nI (i + 1)).toNatClampNeg), .int (xs (nI (i + 2)).toNatClampNeg), .int (xs (nI (i + 3)).toNatClampNeg)] lk_L_144 ⟨⟨rfl, rfl⟩, Nat.le_of_ble_eq_true rfl, Nat.le_of_ble_eq_true rfl⟩ rfl rfl hM rfl (Nat.le_of_ble_eq_true rfl) rfl dL_law_1206 (fun r U hQ => ?_)
  obtain ⟨z, rfl, Q2, hM2, hk2⟩ := hk r U hQ
  show YY g (jLw g b L xs) Qf U 1209 (lvL g b i) [.int z]
  refine x_aload_n dL_law_1209 3 rfl ?_
  refine x_aload_n dL_law_1210 1 rfl ?_
  refine x_iload_n dL_law_1211 0 rfl ?_
  refine x_iconst (v := 1) dL_law_1212 (by decide) ?_
  refine x_iadd dL_law_1213 ?_
  refine x_topi (y := nI (i + 1)) (nadd rfl (b := 1) rfl) ?_
  refine x_sld (vp_in_nI (by omega) (by omega)) dL_law_1214 ?_
  refine x_aload_n dL_law_1215 1 rfl ?_
  refine x_iload_n dL_law_1216 0 rfl ?_
  refine x_iconst (v := 2) dL_law_1217 (by decide) ?_
  refine x_iadd dL_law_1218 ?_
  refine x_topi (y := nI (i + 2)) (nadd rfl (b := 2) rfl) ?_
  refine x_sld (vp_in_nI (by omega) (by omega)) dL_law_1219 ?_
  refine x_aload_n dL_law_1220 1 rfl ?_
  refine x_iload_n dL_law_1221 0 rfl ?_
  refine x_iconst (v := 3) dL_law_1222 (by decide) ?_
  refine x_iadd dL_law_1223 ?_
  refine x_topi (y := nI (i + 3)) (nadd rfl (b := 3) rfl) ?_
  refine x_sld (vp_in_nI (by omega) (by omega)) dL_law_1224 ?_
  refine x_callV (K := jX10_letter) [.int (xs (nI (i + 1)).toNatClampNeg), .int (xs (nI (i + 2)).toNatClampNeg), .int (xs (nI (i + 3)).toNatClampNeg)] lk_L_147 ⟨⟨rfl, rfl⟩, Nat.le_of_ble_eq_true rfl, Nat.le_of_ble_eq_true rfl⟩ rfl rfl hM2 rfl (Nat.le_of_ble_eq_true rfl) rfl dL_law_1225 (fun r2 W hQ2 => ?_)
  obtain ⟨rfl, hRW⟩ := hk2 r2 W hQ2
  show YY g (jLw g b L xs) Qf W 1228 (lvL g b i) [.int z, .int z]
  exact x_icmp_eq 1335 dL_law_1228 (by decide) (fun _ => kk W hRW) (fun q => absurd rfl q)
set_option maxRecDepth 100000 in
set_option maxHeartbeats 1000000 in
theorem lw_c32 {g : gX} {b L : Nat} {xs : Nat → Int32} {Qf : List Frame → Array Value → State → State → Prop} {V : vM} {i : Nat} (hi : i + 7 ≤ L) (hL : L ≤ 3584) (hR : RR V) (kk : ∀ W, RR W → YY g (jLw g b L xs) Qf W 1335 (lvL g b i) []) : YY g (jLw g b L xs) Qf V 1233 (lvL g b i) [] := by
  refine x_aload_n dL_law_1233 2 rfl ?_
  refine x_aload_n dL_law_1234 1 rfl ?_
  refine x_iload_n dL_law_1235 0 rfl ?_
  refine x_iconst (v := 1) dL_law_1236 (by decide) ?_
  refine x_iadd dL_law_1237 ?_
  refine x_topi (y := nI (i + 1)) (nadd rfl (b := 1) rfl) ?_
  refine x_sld (vp_in_nI (by omega) (by omega)) dL_law_1238 ?_
  refine x_aload_n dL_law_1239 1 rfl ?_
  refine x_iload_n dL_law_1240 0 rfl ?_
  refine x_iconst (v := 2) dL_law_1241 (by decide) ?_
  refine x_iadd dL_law_1242 ?_
  refine x_topi (y := nI (i + 2)) (nadd rfl (b := 2) rfl) ?_
  refine x_sld (vp_in_nI (by omega) (by omega)) dL_law_1243 ?_
  obtain ⟨Q, hM, hk⟩ := pr_placed (g := g) hR (xs (nI (i + 1)).toNatClampNeg) (xs (nI (i + 2)).toNatClampNeg)
  refine x_callV (K := jX9_placed) [.int (xs (nI (i + 1)).toNatClampNeg), .int (xs (nI (i + 2)).toNatClampNeg)] lk_L_148 ⟨⟨rfl, rfl⟩, Nat.le_of_ble_eq_true rfl, Nat.le_of_ble_eq_true rfl⟩ rfl rfl hM rfl (Nat.le_of_ble_eq_true rfl) rfl dL_law_1244 (fun r U hQ => ?_)
  obtain ⟨z, rfl, Q2, hM2, hk2⟩ := hk r U hQ
  show YY g (jLw g b L xs) Qf U 1247 (lvL g b i) [.int z]
  refine x_aload_n dL_law_1247 3 rfl ?_
  refine x_aload_n dL_law_1248 1 rfl ?_
  refine x_iload_n dL_law_1249 0 rfl ?_
  refine x_iconst (v := 1) dL_law_1250 (by decide) ?_
  refine x_iadd dL_law_1251 ?_
  refine x_topi (y := nI (i + 1)) (nadd rfl (b := 1) rfl) ?_
  refine x_sld (vp_in_nI (by omega) (by omega)) dL_law_1252 ?_
  refine x_aload_n dL_law_1253 1 rfl ?_
  refine x_iload_n dL_law_1254 0 rfl ?_
  refine x_iconst (v := 2) dL_law_1255 (by decide) ?_
  refine x_iadd dL_law_1256 ?_
  refine x_topi (y := nI (i + 2)) (nadd rfl (b := 2) rfl) ?_
  refine x_sld (vp_in_nI (by omega) (by omega)) dL_law_1257 ?_
  refine x_callV (K := jX10_placed) [.int (xs (nI (i + 1)).toNatClampNeg), .int (xs (nI (i + 2)).toNatClampNeg)] lk_L_151 ⟨⟨rfl, rfl⟩, Nat.le_of_ble_eq_true rfl, Nat.le_of_ble_eq_true rfl⟩ rfl rfl hM2 rfl (Nat.le_of_ble_eq_true rfl) rfl dL_law_1258 (fun r2 W hQ2 => ?_)
  obtain ⟨rfl, hRW⟩ := hk2 r2 W hQ2
  show YY g (jLw g b L xs) Qf W 1261 (lvL g b i) [.int z, .int z]
  exact x_icmp_eq 1335 dL_law_1261 (by decide) (fun _ => kk W hRW) (fun q => absurd rfl q)
set_option maxRecDepth 100000 in
set_option maxHeartbeats 1000000 in
theorem lw_c33 {g : gX} {b L : Nat} {xs : Nat → Int32} {Qf : List Frame → Array Value → State → State → Prop} {V : vM} {i : Nat} (hi : i + 7 ≤ L) (hL : L ≤ 3584) (hR : RR V) (kk : ∀ W, RR W → YY g (jLw g b L xs) Qf W 1335 (lvL g b i) []) : YY g (jLw g b L xs) Qf V 1266 (lvL g b i) [] := by
  refine x_aload_n dL_law_1266 2 rfl ?_
  refine x_aload_n dL_law_1267 1 rfl ?_
  refine x_iload_n dL_law_1268 0 rfl ?_
  refine x_iconst (v := 1) dL_law_1269 (by decide) ?_
  refine x_iadd dL_law_1270 ?_
  refine x_topi (y := nI (i + 1)) (nadd rfl (b := 1) rfl) ?_
  refine x_sld (vp_in_nI (by omega) (by omega)) dL_law_1271 ?_
  obtain ⟨Q, hM, hk⟩ := pr_count (g := g) hR (xs (nI (i + 1)).toNatClampNeg)
  refine x_callV (K := jX9_count) [.int (xs (nI (i + 1)).toNatClampNeg)] lk_L_152 ⟨⟨rfl, rfl⟩, Nat.le_of_ble_eq_true rfl, Nat.le_of_ble_eq_true rfl⟩ rfl rfl hM rfl (Nat.le_of_ble_eq_true rfl) rfl dL_law_1272 (fun r U hQ => ?_)
  obtain ⟨z, rfl, Q2, hM2, hk2⟩ := hk r U hQ
  show YY g (jLw g b L xs) Qf U 1275 (lvL g b i) [.int z]
  refine x_aload_n dL_law_1275 3 rfl ?_
  refine x_aload_n dL_law_1276 1 rfl ?_
  refine x_iload_n dL_law_1277 0 rfl ?_
  refine x_iconst (v := 1) dL_law_1278 (by decide) ?_
  refine x_iadd dL_law_1279 ?_
  refine x_topi (y := nI (i + 1)) (nadd rfl (b := 1) rfl) ?_
  refine x_sld (vp_in_nI (by omega) (by omega)) dL_law_1280 ?_
  refine x_callV (K := jX10_count) [.int (xs (nI (i + 1)).toNatClampNeg)] lk_L_155 ⟨⟨rfl, rfl⟩, Nat.le_of_ble_eq_true rfl, Nat.le_of_ble_eq_true rfl⟩ rfl rfl hM2 rfl (Nat.le_of_ble_eq_true rfl) rfl dL_law_1281 (fun r2 W hQ2 => ?_)
  obtain ⟨rfl, hRW⟩ := hk2 r2 W hQ2
  show YY g (jLw g b L xs) Qf W 1284 (lvL g b i) [.int z, .int z]
  exact x_icmp_eq 1335 dL_law_1284 (by decide) (fun _ => kk W hRW) (fun q => absurd rfl q)
set_option maxRecDepth 100000 in
set_option maxHeartbeats 1000000 in
theorem lw_c34 {g : gX} {b L : Nat} {xs : Nat → Int32} {Qf : List Frame → Array Value → State → State → Prop} {V : vM} {i : Nat} (hi : i + 7 ≤ L) (hL : L ≤ 3584) (hR : RR V) (kk : ∀ W, RR W → YY g (jLw g b L xs) Qf W 1335 (lvL g b i) []) : YY g (jLw g b L xs) Qf V 1289 (lvL g b i) [] := by
  refine x_aload_n dL_law_1289 2 rfl ?_
  refine x_aload_n dL_law_1290 1 rfl ?_
  refine x_iload_n dL_law_1291 0 rfl ?_
  refine x_iconst (v := 1) dL_law_1292 (by decide) ?_
  refine x_iadd dL_law_1293 ?_
  refine x_topi (y := nI (i + 1)) (nadd rfl (b := 1) rfl) ?_
  refine x_sld (vp_in_nI (by omega) (by omega)) dL_law_1294 ?_
  obtain ⟨Q, hM, hk⟩ := pr_save (g := g) hR (xs (nI (i + 1)).toNatClampNeg)
  refine x_callV (K := jX9_save) [.int (xs (nI (i + 1)).toNatClampNeg)] lk_L_156 ⟨⟨rfl, rfl⟩, Nat.le_of_ble_eq_true rfl, Nat.le_of_ble_eq_true rfl⟩ rfl rfl hM rfl (Nat.le_of_ble_eq_true rfl) rfl dL_law_1295 (fun r U hQ => ?_)
  obtain ⟨z, rfl, Q2, hM2, hk2⟩ := hk r U hQ
  show YY g (jLw g b L xs) Qf U 1298 (lvL g b i) [.int z]
  refine x_aload_n dL_law_1298 3 rfl ?_
  refine x_aload_n dL_law_1299 1 rfl ?_
  refine x_iload_n dL_law_1300 0 rfl ?_
  refine x_iconst (v := 1) dL_law_1301 (by decide) ?_
  refine x_iadd dL_law_1302 ?_
  refine x_topi (y := nI (i + 1)) (nadd rfl (b := 1) rfl) ?_
  refine x_sld (vp_in_nI (by omega) (by omega)) dL_law_1303 ?_
  refine x_callV (K := jX10_save) [.int (xs (nI (i + 1)).toNatClampNeg)] lk_L_159 ⟨⟨rfl, rfl⟩, Nat.le_of_ble_eq_true rfl, Nat.le_of_ble_eq_true rfl⟩ rfl rfl hM2 rfl (Nat.le_of_ble_eq_true rfl) rfl dL_law_1304 (fun r2 W hQ2 => ?_)
  obtain ⟨rfl, hRW⟩ := hk2 r2 W hQ2
  show YY g (jLw g b L xs) Qf W 1307 (lvL g b i) [.int z, .int z]
  exact x_icmp_eq 1335 dL_law_1307 (by decide) (fun _ => kk W hRW) (fun q => absurd rfl q)
set_option maxRecDepth 100000 in
set_option maxHeartbeats 1000000 in
theorem lw_c35 {g : gX} {b L : Nat} {xs : Nat → Int32} {Qf : List Frame → Array Value → State → State → Prop} {V : vM} {i : Nat} (hi : i + 7 ≤ L) (hL : L ≤ 3584) (hR : RR V) (kk : ∀ W, RR W → YY g (jLw g b L xs) Qf W 1335 (lvL g b i) []) : YY g (jLw g b L xs) Qf V 1312 (lvL g b i) [] := by
  refine x_aload_n dL_law_1312 2 rfl ?_
  refine x_aload_n dL_law_1313 1 rfl ?_
  refine x_iload_n dL_law_1314 0 rfl ?_
  refine x_iconst (v := 1) dL_law_1315 (by decide) ?_
  refine x_iadd dL_law_1316 ?_
  refine x_topi (y := nI (i + 1)) (nadd rfl (b := 1) rfl) ?_
  refine x_sld (vp_in_nI (by omega) (by omega)) dL_law_1317 ?_
  obtain ⟨Q, hM, hk⟩ := pr_restore (g := g) hR (xs (nI (i + 1)).toNatClampNeg)
  refine x_callV (K := jX9_restore) [.int (xs (nI (i + 1)).toNatClampNeg)] lk_L_160 ⟨⟨rfl, rfl⟩, Nat.le_of_ble_eq_true rfl, Nat.le_of_ble_eq_true rfl⟩ rfl rfl hM rfl (Nat.le_of_ble_eq_true rfl) rfl dL_law_1318 (fun r U hQ => ?_)
  obtain ⟨z, rfl, Q2, hM2, hk2⟩ := hk r U hQ
  show YY g (jLw g b L xs) Qf U 1321 (lvL g b i) [.int z]
  refine x_aload_n dL_law_1321 3 rfl ?_
  refine x_aload_n dL_law_1322 1 rfl ?_
  refine x_iload_n dL_law_1323 0 rfl ?_
  refine x_iconst (v := 1) dL_law_1324 (by decide) ?_
  refine x_iadd dL_law_1325 ?_
  refine x_topi (y := nI (i + 1)) (nadd rfl (b := 1) rfl) ?_
  refine x_sld (vp_in_nI (by omega) (by omega)) dL_law_1326 ?_
  refine x_callV (K := jX10_restore) [.int (xs (nI (i + 1)).toNatClampNeg)] lk_L_163 ⟨⟨rfl, rfl⟩, Nat.le_of_ble_eq_true rfl, Nat.le_of_ble_eq_true rfl⟩ rfl rfl hM2 rfl (Nat.le_of_ble_eq_true rfl) rfl dL_law_1327 (fun r2 W hQ2 => ?_)
  obtain ⟨rfl, hRW⟩ := hk2 r2 W hQ2
  show YY g (jLw g b L xs) Qf W 1330 (lvL g b i) [.int z, .int z]
  exact x_icmp_eq 1335 dL_law_1330 (by decide) (fun _ => kk W hRW) (fun q => absurd rfl q)
set_option maxRecDepth 100000 in
set_option maxHeartbeats 4000000 in
theorem law_loop {g : gX} {b L : Nat} {xs : Nat → Int32} {Qf : List Frame → Array Value → State → State → Prop} (hL : L ≤ 3584) (hfin : ∀ V lv, YY g (jLw g b L xs) Qf V 1342 lv [.int 1]) : ∀ (fu i : Nat) (V : vM), i ≤ L + 7 → L + 8 ≤ i + fu → RR V → YY g (jLw g b L xs) Qf V 18 (lvL g b i) [] := by
  intro fu
  induction fu with
  | zero => intro i V h1 h2; exact absurd h2 (by omega)
  | succ fu ih =>
    intro i V h1 h2 hR
    refine x_iload_n dL_law_18 0 rfl ?_
    refine x_aload_n dL_law_19 1 rfl ?_
    refine x_slen dL_law_20 ?_
    refine x_bipush (v := 7) dL_law_21 (by decide) ?_
    refine x_isub dL_law_23 ?_
    refine x_icmp_gt 1341 dL_law_24 (by decide) (fun _ => ?_) (fun c1 => ?_)
    · refine x_iconst (v := 1) dL_law_1341 (by decide) ?_
      exact hfin V _
    · have hi : i + 7 ≤ L := by
        by_cases q : 7 ≤ L
        · have e7 : nI L - 7 = nI (L - 7) := nsub (b := 7) q rfl rfl
          rw [e7] at c1
          have := (nI_leI (a := i) (b := L - 7) (by omega) (by omega)).mp (Int32.not_lt.mp c1)
          omega
        · exfalso
          apply c1
          have h0 := nI_toInt (n := L) (by omega)
          rw [Int32.lt_iff_toInt_lt, fb_subI (by rw [h0, show (7 : Int32).toInt = 7 from rfl]; omega) (by rw [h0, show (7 : Int32).toInt = 7 from rfl]; omega), h0, show (7 : Int32).toInt = 7 from rfl, nI_toInt (by omega)]
          omega
      have kk : ∀ W, RR W → YY g (jLw g b L xs) Qf W 1335 (lvL g b i) [] := by
        intro W hW
        refine x_iinc 3 (v := nI (i + 7)) 0 (lvL g b (i + 7)) dL_law_1335 rfl (nadd rfl (b := 7) rfl) (show 3 < 4 by decide) rfl ?_
        refine x_goto 18 dL_law_1338 (by decide) ?_
        exact ih (i + 7) W (by omega) (by omega) hW
      refine x_aload_n dL_law_27 1 rfl ?_
      refine x_iload_n dL_law_28 0 rfl ?_
      refine x_sld (vp_in_nI (by omega) (by omega)) dL_law_29 ?_
      refine x_bipush (v := 63) dL_law_30 (by decide) ?_
      refine x_iand dL_law_32 ?_
      generalize xs (nI i).toNatClampNeg &&& 63 = w
      by_cases q : w.toInt < 0 ∨ 35 < w.toInt
      · refine x_tableOut 1335 dL_law_33 q (by decide) ?_
        exact kk V hR
      · have q1 : ¬ w.toInt < 0 := fun z => q (Or.inl z)
        have q2 : ¬ 35 < w.toInt := fun z => q (Or.inr z)
        obtain ⟨n, hn, en⟩ : ∃ n : Nat, n < 36 ∧ w.toInt = n := ⟨w.toInt.toNat, by omega, by omega⟩
        have ho : (w.toInt - 0).toNat = n := by omega
        by_cases e0 : n = 0
        · exact x_tableIn (off := 159) 192 dL_law_33 q1 q2 (by rw [ho, e0]; rfl) (by decide) (lw_c0 hi hL hR kk)
        by_cases e1 : n = 1
        · exact x_tableIn (off := 192) 225 dL_law_33 q1 q2 (by rw [ho, e1]; rfl) (by decide) (lw_c1 hi hL hR kk)
        by_cases e2 : n = 2
        · exact x_tableIn (off := 225) 258 dL_law_33 q1 q2 (by rw [ho, e2]; rfl) (by decide) (lw_c2 hi hL hR kk)
        by_cases e3 : n = 3
        · exact x_tableIn (off := 278) 311 dL_law_33 q1 q2 (by rw [ho, e3]; rfl) (by decide) (lw_c3 hi hL hR kk)
        by_cases e4 : n = 4
        · exact x_tableIn (off := 353) 386 dL_law_33 q1 q2 (by rw [ho, e4]; rfl) (by decide) (lw_c4 hi hL hR kk)
        by_cases e5 : n = 5
        · exact x_tableIn (off := 366) 399 dL_law_33 q1 q2 (by rw [ho, e5]; rfl) (by decide) (lw_c5 hi hL hR kk)
        by_cases e6 : n = 6
        · exact x_tableIn (off := 379) 412 dL_law_33 q1 q2 (by rw [ho, e6]; rfl) (by decide) (lw_c6 hi hL hR kk)
        by_cases e7 : n = 7
        · exact x_tableIn (off := 412) 445 dL_law_33 q1 q2 (by rw [ho, e7]; rfl) (by decide) (lw_c7 hi hL hR kk)
        by_cases e8 : n = 8
        · exact x_tableIn (off := 435) 468 dL_law_33 q1 q2 (by rw [ho, e8]; rfl) (by decide) (lw_c8 hi hL hR kk)
        by_cases e9 : n = 9
        · exact x_tableIn (off := 458) 491 dL_law_33 q1 q2 (by rw [ho, e9]; rfl) (by decide) (lw_c9 hi hL hR kk)
        by_cases e10 : n = 10
        · exact x_tableIn (off := 533) 566 dL_law_33 q1 q2 (by rw [ho, e10]; rfl) (by decide) (lw_c10 hi hL hR kk)
        by_cases e11 : n = 11
        · exact x_tableIn (off := 556) 589 dL_law_33 q1 q2 (by rw [ho, e11]; rfl) (by decide) (lw_c11 hi hL hR kk)
        by_cases e12 : n = 12
        · exact x_tableIn (off := 569) 602 dL_law_33 q1 q2 (by rw [ho, e12]; rfl) (by decide) (lw_c12 hi hL hR kk)
        by_cases e13 : n = 13
        · exact x_tableIn (off := 582) 615 dL_law_33 q1 q2 (by rw [ho, e13]; rfl) (by decide) (lw_c13 hi hL hR kk)
        by_cases e14 : n = 14
        · exact x_tableIn (off := 595) 628 dL_law_33 q1 q2 (by rw [ho, e14]; rfl) (by decide) (lw_c14 hi hL hR kk)
        by_cases e15 : n = 15
        · exact x_tableIn (off := 618) 651 dL_law_33 q1 q2 (by rw [ho, e15]; rfl) (by decide) (lw_c15 hi hL hR kk)
        by_cases e16 : n = 16
        · exact x_tableIn (off := 651) 684 dL_law_33 q1 q2 (by rw [ho, e16]; rfl) (by decide) (lw_c16 hi hL hR kk)
        by_cases e17 : n = 17
        · exact x_tableIn (off := 694) 727 dL_law_33 q1 q2 (by rw [ho, e17]; rfl) (by decide) (lw_c17 hi hL hR kk)
        by_cases e18 : n = 18
        · exact x_tableIn (off := 737) 770 dL_law_33 q1 q2 (by rw [ho, e18]; rfl) (by decide) (lw_c18 hi hL hR kk)
        by_cases e19 : n = 19
        · exact x_tableIn (off := 780) 813 dL_law_33 q1 q2 (by rw [ho, e19]; rfl) (by decide) (lw_c19 hi hL hR kk)
        by_cases e20 : n = 20
        · exact x_tableIn (off := 813) 846 dL_law_33 q1 q2 (by rw [ho, e20]; rfl) (by decide) (lw_c20 hi hL hR kk)
        by_cases e21 : n = 21
        · exact x_tableIn (off := 837) 870 dL_law_33 q1 q2 (by rw [ho, e21]; rfl) (by decide) (lw_c21 hi hL hR kk)
        by_cases e22 : n = 22
        · exact x_tableIn (off := 870) 903 dL_law_33 q1 q2 (by rw [ho, e22]; rfl) (by decide) (lw_c22 hi hL hR kk)
        by_cases e23 : n = 23
        · exact x_tableIn (off := 913) 946 dL_law_33 q1 q2 (by rw [ho, e23]; rfl) (by decide) (lw_c23 hi hL hR kk)
        by_cases e24 : n = 24
        · exact x_tableIn (off := 936) 969 dL_law_33 q1 q2 (by rw [ho, e24]; rfl) (by decide) (lw_c24 hi hL hR kk)
        by_cases e25 : n = 25
        · exact x_tableIn (off := 959) 992 dL_law_33 q1 q2 (by rw [ho, e25]; rfl) (by decide) (lw_c25 hi hL hR kk)
        by_cases e26 : n = 26
        · exact x_tableIn (off := 1002) 1035 dL_law_33 q1 q2 (by rw [ho, e26]; rfl) (by decide) (lw_c26 hi hL hR kk)
        by_cases e27 : n = 27
        · exact x_tableIn (off := 1035) 1068 dL_law_33 q1 q2 (by rw [ho, e27]; rfl) (by decide) (lw_c27 hi hL hR kk)
        by_cases e28 : n = 28
        · exact x_tableIn (off := 1078) 1111 dL_law_33 q1 q2 (by rw [ho, e28]; rfl) (by decide) (lw_c28 hi hL hR kk)
        by_cases e29 : n = 29
        · exact x_tableIn (off := 1101) 1134 dL_law_33 q1 q2 (by rw [ho, e29]; rfl) (by decide) (lw_c29 hi hL hR kk)
        by_cases e30 : n = 30
        · exact x_tableIn (off := 1114) 1147 dL_law_33 q1 q2 (by rw [ho, e30]; rfl) (by decide) (lw_c30 hi hL hR kk)
        by_cases e31 : n = 31
        · exact x_tableIn (off := 1157) 1190 dL_law_33 q1 q2 (by rw [ho, e31]; rfl) (by decide) (lw_c31 hi hL hR kk)
        by_cases e32 : n = 32
        · exact x_tableIn (off := 1200) 1233 dL_law_33 q1 q2 (by rw [ho, e32]; rfl) (by decide) (lw_c32 hi hL hR kk)
        by_cases e33 : n = 33
        · exact x_tableIn (off := 1233) 1266 dL_law_33 q1 q2 (by rw [ho, e33]; rfl) (by decide) (lw_c33 hi hL hR kk)
        by_cases e34 : n = 34
        · exact x_tableIn (off := 1256) 1289 dL_law_33 q1 q2 (by rw [ho, e34]; rfl) (by decide) (lw_c34 hi hL hR kk)
        by_cases e35 : n = 35
        · exact x_tableIn (off := 1279) 1312 dL_law_33 q1 q2 (by rw [ho, e35]; rfl) (by decide) (lw_c35 hi hL hR kk)
        omega
