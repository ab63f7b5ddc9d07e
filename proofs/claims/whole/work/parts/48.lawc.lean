/-! one argument of a call: script[i + j] -/
theorem Y_arg {l0 : Launch} {Z : EC} {Γ : CTY} {ws : va_W} {k n : Nat} {own : String} {rm : Room} {n0 pc : Nat} {L : List (Option Value)} {st : List Value} {cc : ByteArray} {b Ln : Nat} {xs : Nat → Int32} (C : CY l0 Z Γ cc own rm n0) (X : XY Γ b Ln xs) (hLn : Ln ≤ 448) {i j : Nat} (hj : i + j < Ln) (h0 : L[0]? = some (some (.ref b))) (h3 : L[3]? = some (some (.int (nI i)))) {z : Int} (hz : Int32.ofInt z = nI j) (d0 : decode cc pc = .ok (.aload_n 0, 1)) (d1 : decode cc (pc + 1) = .ok (.iload_n 3, 1)) (d2 : decode cc (pc + 2) = .ok (.iconst z, 1)) (d3 : decode cc (pc + 3) = .ok (.iadd, 1)) (d4 : decode cc (pc + 4) = .ok (.iaload, 1)) (kk : YJ Γ ws k n (pc + 5) L (.int (xs (i + j)) :: st)) : YJ Γ ws k n pc L st := by
  refine Y_aload_n C d0 rfl h0 ?_
  refine Y_iload_n C d1 rfl h3 ?_
  refine Y_iconst C (v := nI j) d2 hz ?_
  refine Y_iadd C (v := nI (i + j)) d3 (nI_add i j) ?_
  exact Y_sld C X hj (by omega) rfl d4 kk
theorem Y_arg6 {l0 : Launch} {Z : EC} {Γ : CTY} {ws : va_W} {k n : Nat} {own : String} {rm : Room} {n0 pc : Nat} {L : List (Option Value)} {st : List Value} {cc : ByteArray} {b Ln : Nat} {xs : Nat → Int32} (C : CY l0 Z Γ cc own rm n0) (X : XY Γ b Ln xs) (hLn : Ln ≤ 448) {i j : Nat} (hj : i + j < Ln) (h0 : L[0]? = some (some (.ref b))) (h3 : L[3]? = some (some (.int (nI i)))) {z : Int} (hz : (Int8.ofInt z).toInt32 = nI j) (d0 : decode cc pc = .ok (.aload_n 0, 1)) (d1 : decode cc (pc + 1) = .ok (.iload_n 3, 1)) (d2 : decode cc (pc + 2) = .ok (.bipush z, 2)) (d3 : decode cc (pc + 4) = .ok (.iadd, 1)) (d4 : decode cc (pc + 5) = .ok (.iaload, 1)) (kk : YJ Γ ws k n (pc + 6) L (.int (xs (i + j)) :: st)) : YJ Γ ws k n pc L st := by
  refine Y_aload_n C d0 rfl h0 ?_
  refine Y_iload_n C d1 rfl h3 ?_
  refine Y_bipush C (v := nI j) d2 hz ?_
  refine Y_iadd C (v := nI (i + j)) d3 (nI_add i j) ?_
  exact Y_sld C X hj (by omega) rfl d4 kk
section LC
variable {l0 : Launch} {Z : EC} {aM : Nat → Nat} {Γ : CTY} {b Ln : Nat} {xs : Nat → Int32}
set_option maxRecDepth 20000 in
theorem lc_shore (C : CY l0 Z Γ cL_law RL room_1 4) (X : XY Γ b Ln xs) (hLn : Ln ≤ 448) {i : Nat} (hi : i + 7 ≤ Ln) {x : St} {y : Mt} {A : AB} (hA : AbsC x A) (hM : AbsM y A) (hk : AOK A) (kk : ∀ (x1 : St) (y1 : Mt) (A1 : AB), AbsC x1 A1 → AbsM y1 A1 → AOK A1 → YJ Γ (wM (Z.1, aM, Z.2.2) y1 ++ wC Z x1) 600000 7302250 1418 [some (.ref b), some (.ref (Z.2.1 0)), some (.ref (aM 0)), some (.int (nI i))] []) : YJ Γ (wM (Z.1, aM, Z.2.2) y ++ wC Z x) 600000 7302250 200 [some (.ref b), some (.ref (Z.2.1 0)), some (.ref (aM 0)), some (.int (nI i))] [] := by
  have C2 : CY l0 (Z.1, aM, Z.2.2) Γ cL_law RL room_1 4 := C
  refine Y_aload_n C dL_law_200 rfl rfl ?_
  refine Y_arg C X hLn (i := i) (j := 1) (by omega) rfl rfl (by decide) dL_law_201 dL_law_202 dL_law_203 dL_law_204 dL_law_205 ?_
  refine Y_arg C X hLn (i := i) (j := 2) (by omega) rfl rfl (by decide) dL_law_206 dL_law_207 dL_law_208 dL_law_209 dL_law_210 ?_
  refine Y_arg C X hLn (i := i) (j := 3) (by omega) rfl rfl (by decide) dL_law_211 dL_law_212 dL_law_213 dL_law_214 dL_law_215 ?_
  refine Y_arg C X hLn (i := i) (j := 4) (by omega) rfl rfl (by decide) dL_law_216 dL_law_217 dL_law_218 dL_law_219 dL_law_220 ?_
  refine Y_callVi (w0 := wC Z) (x := x) (As := [.int (xs (i + 1)), .int (xs (i + 2)), .int (xs (i + 3)), .int (xs (i + 4))]) C (c_X5_shore l0 Z x A hA hk (xs (i + 1)) (xs (i + 2)) (xs (i + 3)) (xs (i + 4))) cw_RL_13 wd_4_13 wd_4_14 (q0 := 0) (ci := 5) (N := 8) rfl rfl rfl rfl (Nat.le_of_ble_eq_true rfl) rfl rfl (Nat.le_of_ble_eq_true rfl) (Nat.le_of_ble_eq_true rfl) (Nat.le_of_ble_eq_true rfl) (Nat.le_of_ble_eq_true rfl) dL_law_221 (fun r1 x1 hp => ?_)
  obtain ⟨hr1, hA1⟩ := hp
  refine Y_aload_n C dL_law_224 rfl rfl ?_
  refine Y_arg C X hLn (i := i) (j := 1) (by omega) rfl rfl (by decide) dL_law_225 dL_law_226 dL_law_227 dL_law_228 dL_law_229 ?_
  refine Y_arg C X hLn (i := i) (j := 2) (by omega) rfl rfl (by decide) dL_law_230 dL_law_231 dL_law_232 dL_law_233 dL_law_234 ?_
  refine Y_arg C X hLn (i := i) (j := 3) (by omega) rfl rfl (by decide) dL_law_235 dL_law_236 dL_law_237 dL_law_238 dL_law_239 ?_
  refine Y_arg C X hLn (i := i) (j := 4) (by omega) rfl rfl (by decide) dL_law_240 dL_law_241 dL_law_242 dL_law_243 dL_law_244 ?_
  refine Y_sw ?_
  refine Y_callVi (w0 := wM (Z.1, aM, Z.2.2)) (x := y) (As := [.int (xs (i + 1)), .int (xs (i + 2)), .int (xs (i + 3)), .int (xs (i + 4))]) C2 (c_X6_shore l0 (Z.1, aM, Z.2.2) y A hM hk (xs (i + 1)) (xs (i + 2)) (xs (i + 3)) (xs (i + 4))) cw_RL_17 wd_8_11 wd_8_12 (q0 := 0) (ci := 6) (N := 33) rfl rfl rfl rfl (Nat.le_of_ble_eq_true rfl) rfl rfl (Nat.le_of_ble_eq_true rfl) (Nat.le_of_ble_eq_true rfl) (Nat.le_of_ble_eq_true rfl) (Nat.le_of_ble_eq_true rfl) dL_law_245 (fun r2 y1 hp => ?_)
  obtain ⟨hr2, hM1⟩ := hp
  refine Y_sw ?_
  exact Y_icmp_eq (tgt := 1418) C dL_law_248 (by decide) (fun _ => kk x1 y1 _ hA1 hM1 (ok_shore hk (xs (i + 1)) (xs (i + 2)) (xs (i + 3)) (xs (i + 4)))) (fun h => absurd (hr1.trans hr2.symm) h)
set_option maxRecDepth 20000 in
theorem lc_ofPool (C : CY l0 Z Γ cL_law RL room_1 4) (X : XY Γ b Ln xs) (hLn : Ln ≤ 448) {i : Nat} (hi : i + 7 ≤ Ln) {x : St} {y : Mt} {A : AB} (hA : AbsC x A) (hM : AbsM y A) (hk : AOK A) (kk : ∀ (x1 : St) (y1 : Mt) (A1 : AB), AbsC x1 A1 → AbsM y1 A1 → AOK A1 → YJ Γ (wM (Z.1, aM, Z.2.2) y1 ++ wC Z x1) 600000 7302250 1418 [some (.ref b), some (.ref (Z.2.1 0)), some (.ref (aM 0)), some (.int (nI i))] []) : YJ Γ (wM (Z.1, aM, Z.2.2) y ++ wC Z x) 600000 7302250 253 [some (.ref b), some (.ref (Z.2.1 0)), some (.ref (aM 0)), some (.int (nI i))] [] := by
  have C2 : CY l0 (Z.1, aM, Z.2.2) Γ cL_law RL room_1 4 := C
  refine Y_aload_n C dL_law_253 rfl rfl ?_
  refine Y_arg C X hLn (i := i) (j := 1) (by omega) rfl rfl (by decide) dL_law_254 dL_law_255 dL_law_256 dL_law_257 dL_law_258 ?_
  refine Y_arg C X hLn (i := i) (j := 2) (by omega) rfl rfl (by decide) dL_law_259 dL_law_260 dL_law_261 dL_law_262 dL_law_263 ?_
  refine Y_callVi (w0 := wC Z) (x := x) (As := [.int (xs (i + 1)), .int (xs (i + 2))]) C (c_X5_ofPool l0 Z x A hA hk (xs (i + 1)) (xs (i + 2))) cw_RL_18 wd_10_21 wd_10_22 (q0 := 0) (ci := 5) (N := 8) rfl rfl rfl rfl (Nat.le_of_ble_eq_true rfl) rfl rfl (Nat.le_of_ble_eq_true rfl) (Nat.le_of_ble_eq_true rfl) (Nat.le_of_ble_eq_true rfl) (Nat.le_of_ble_eq_true rfl) dL_law_264 (fun r1 x1 hp => ?_)
  obtain ⟨hr1, hA1⟩ := hp
  refine Y_aload_n C dL_law_267 rfl rfl ?_
  refine Y_arg C X hLn (i := i) (j := 1) (by omega) rfl rfl (by decide) dL_law_268 dL_law_269 dL_law_270 dL_law_271 dL_law_272 ?_
  refine Y_arg C X hLn (i := i) (j := 2) (by omega) rfl rfl (by decide) dL_law_273 dL_law_274 dL_law_275 dL_law_276 dL_law_277 ?_
  refine Y_sw ?_
  refine Y_callVi (w0 := wM (Z.1, aM, Z.2.2)) (x := y) (As := [.int (xs (i + 1)), .int (xs (i + 2))]) C2 (c_X6_ofPool l0 (Z.1, aM, Z.2.2) y A hM hk (xs (i + 1)) (xs (i + 2))) cw_RL_22 wd_12_4 wd_12_5 (q0 := 0) (ci := 6) (N := 33) rfl rfl rfl rfl (Nat.le_of_ble_eq_true rfl) rfl rfl (Nat.le_of_ble_eq_true rfl) (Nat.le_of_ble_eq_true rfl) (Nat.le_of_ble_eq_true rfl) (Nat.le_of_ble_eq_true rfl) dL_law_278 (fun r2 y1 hp => ?_)
  obtain ⟨hr2, hM1⟩ := hp
  refine Y_sw ?_
  exact Y_icmp_eq (tgt := 1418) C dL_law_281 (by decide) (fun _ => kk x1 y1 _ hA1 hM1 hk) (fun h => absurd (hr1.trans hr2.symm) h)
set_option maxRecDepth 20000 in
theorem lc_ofMember (C : CY l0 Z Γ cL_law RL room_1 4) (X : XY Γ b Ln xs) (hLn : Ln ≤ 448) {i : Nat} (hi : i + 7 ≤ Ln) {x : St} {y : Mt} {A : AB} (hA : AbsC x A) (hM : AbsM y A) (hk : AOK A) (kk : ∀ (x1 : St) (y1 : Mt) (A1 : AB), AbsC x1 A1 → AbsM y1 A1 → AOK A1 → YJ Γ (wM (Z.1, aM, Z.2.2) y1 ++ wC Z x1) 600000 7302250 1418 [some (.ref b), some (.ref (Z.2.1 0)), some (.ref (aM 0)), some (.int (nI i))] []) : YJ Γ (wM (Z.1, aM, Z.2.2) y ++ wC Z x) 600000 7302250 286 [some (.ref b), some (.ref (Z.2.1 0)), some (.ref (aM 0)), some (.int (nI i))] [] := by
  have C2 : CY l0 (Z.1, aM, Z.2.2) Γ cL_law RL room_1 4 := C
  refine Y_aload_n C dL_law_286 rfl rfl ?_
  refine Y_arg C X hLn (i := i) (j := 1) (by omega) rfl rfl (by decide) dL_law_287 dL_law_288 dL_law_289 dL_law_290 dL_law_291 ?_
  refine Y_arg C X hLn (i := i) (j := 2) (by omega) rfl rfl (by decide) dL_law_292 dL_law_293 dL_law_294 dL_law_295 dL_law_296 ?_
  refine Y_callVi (w0 := wC Z) (x := x) (As := [.int (xs (i + 1)), .int (xs (i + 2))]) C (c_X5_ofMember l0 Z x A hA hk (xs (i + 1)) (xs (i + 2))) cw_RL_23 wd_12_19 wd_12_20 (q0 := 0) (ci := 5) (N := 8) rfl rfl rfl rfl (Nat.le_of_ble_eq_true rfl) rfl rfl (Nat.le_of_ble_eq_true rfl) (Nat.le_of_ble_eq_true rfl) (Nat.le_of_ble_eq_true rfl) (Nat.le_of_ble_eq_true rfl) dL_law_297 (fun r1 x1 hp => ?_)
  obtain ⟨hr1, hA1⟩ := hp
  refine Y_aload_n C dL_law_300 rfl rfl ?_
  refine Y_arg C X hLn (i := i) (j := 1) (by omega) rfl rfl (by decide) dL_law_301 dL_law_302 dL_law_303 dL_law_304 dL_law_305 ?_
  refine Y_arg C X hLn (i := i) (j := 2) (by omega) rfl rfl (by decide) dL_law_306 dL_law_307 dL_law_308 dL_law_309 dL_law_310 ?_
  refine Y_sw ?_
  refine Y_callVi (w0 := wM (Z.1, aM, Z.2.2)) (x := y) (As := [.int (xs (i + 1)), .int (xs (i + 2))]) C2 (c_X6_ofMember l0 (Z.1, aM, Z.2.2) y A hM hk (xs (i + 1)) (xs (i + 2))) cw_RL_26 wd_13_10 wd_13_11 (q0 := 0) (ci := 6) (N := 33) rfl rfl rfl rfl (Nat.le_of_ble_eq_true rfl) rfl rfl (Nat.le_of_ble_eq_true rfl) (Nat.le_of_ble_eq_true rfl) (Nat.le_of_ble_eq_true rfl) (Nat.le_of_ble_eq_true rfl) dL_law_311 (fun r2 y1 hp => ?_)
  obtain ⟨hr2, hM1⟩ := hp
  refine Y_sw ?_
  exact Y_icmp_eq (tgt := 1418) C dL_law_314 (by decide) (fun _ => kk x1 y1 _ hA1 hM1 hk) (fun h => absurd (hr1.trans hr2.symm) h)
set_option maxRecDepth 20000 in
theorem lc_raise (C : CY l0 Z Γ cL_law RL room_1 4) (X : XY Γ b Ln xs) (hLn : Ln ≤ 448) {i : Nat} (hi : i + 7 ≤ Ln) {x : St} {y : Mt} {A : AB} (hA : AbsC x A) (hM : AbsM y A) (hk : AOK A) (kk : ∀ (x1 : St) (y1 : Mt) (A1 : AB), AbsC x1 A1 → AbsM y1 A1 → AOK A1 → YJ Γ (wM (Z.1, aM, Z.2.2) y1 ++ wC Z x1) 600000 7302250 1418 [some (.ref b), some (.ref (Z.2.1 0)), some (.ref (aM 0)), some (.int (nI i))] []) : YJ Γ (wM (Z.1, aM, Z.2.2) y ++ wC Z x) 600000 7302250 319 [some (.ref b), some (.ref (Z.2.1 0)), some (.ref (aM 0)), some (.int (nI i))] [] := by
  have C2 : CY l0 (Z.1, aM, Z.2.2) Γ cL_law RL room_1 4 := C
  refine Y_aload_n C dL_law_319 rfl rfl ?_
  refine Y_arg C X hLn (i := i) (j := 1) (by omega) rfl rfl (by decide) dL_law_320 dL_law_321 dL_law_322 dL_law_323 dL_law_324 ?_
  refine Y_arg C X hLn (i := i) (j := 2) (by omega) rfl rfl (by decide) dL_law_325 dL_law_326 dL_law_327 dL_law_328 dL_law_329 ?_
  refine Y_callVi (w0 := wC Z) (x := x) (As := [.int (xs (i + 1)), .int (xs (i + 2))]) C (c_X5_raise l0 Z x A hA hk (xs (i + 1)) (xs (i + 2))) cw_RL_27 wd_13_22 wd_13_23 (q0 := 0) (ci := 5) (N := 8) rfl rfl rfl rfl (Nat.le_of_ble_eq_true rfl) rfl rfl (Nat.le_of_ble_eq_true rfl) (Nat.le_of_ble_eq_true rfl) (Nat.le_of_ble_eq_true rfl) (Nat.le_of_ble_eq_true rfl) dL_law_330 (fun r1 x1 hp => ?_)
  obtain ⟨hr1, hA1⟩ := hp
  refine Y_aload_n C dL_law_333 rfl rfl ?_
  refine Y_arg C X hLn (i := i) (j := 1) (by omega) rfl rfl (by decide) dL_law_334 dL_law_335 dL_law_336 dL_law_337 dL_law_338 ?_
  refine Y_arg C X hLn (i := i) (j := 2) (by omega) rfl rfl (by decide) dL_law_339 dL_law_340 dL_law_341 dL_law_342 dL_law_343 ?_
  refine Y_sw ?_
  refine Y_callVi (w0 := wM (Z.1, aM, Z.2.2)) (x := y) (As := [.int (xs (i + 1)), .int (xs (i + 2))]) C2 (c_X6_raise l0 (Z.1, aM, Z.2.2) y A hM hk (xs (i + 1)) (xs (i + 2))) cw_RL_30 wd_14_2 wd_14_3 (q0 := 0) (ci := 6) (N := 33) rfl rfl rfl rfl (Nat.le_of_ble_eq_true rfl) rfl rfl (Nat.le_of_ble_eq_true rfl) (Nat.le_of_ble_eq_true rfl) (Nat.le_of_ble_eq_true rfl) (Nat.le_of_ble_eq_true rfl) dL_law_344 (fun r2 y1 hp => ?_)
  obtain ⟨hr2, hM1⟩ := hp
  refine Y_sw ?_
  exact Y_icmp_eq (tgt := 1418) C dL_law_347 (by decide) (fun _ => kk x1 y1 _ hA1 hM1 (ok_raise hk (xs (i + 1)) (xs (i + 2)))) (fun h => absurd (hr1.trans hr2.symm) h)
set_option maxRecDepth 20000 in
theorem lc_sway (C : CY l0 Z Γ cL_law RL room_1 4) (X : XY Γ b Ln xs) (hLn : Ln ≤ 448) {i : Nat} (hi : i + 7 ≤ Ln) {x : St} {y : Mt} {A : AB} (hA : AbsC x A) (hM : AbsM y A) (hk : AOK A) (kk : ∀ (x1 : St) (y1 : Mt) (A1 : AB), AbsC x1 A1 → AbsM y1 A1 → AOK A1 → YJ Γ (wM (Z.1, aM, Z.2.2) y1 ++ wC Z x1) 600000 7302250 1418 [some (.ref b), some (.ref (Z.2.1 0)), some (.ref (aM 0)), some (.int (nI i))] []) : YJ Γ (wM (Z.1, aM, Z.2.2) y ++ wC Z x) 600000 7302250 352 [some (.ref b), some (.ref (Z.2.1 0)), some (.ref (aM 0)), some (.int (nI i))] [] := by
  have C2 : CY l0 (Z.1, aM, Z.2.2) Γ cL_law RL room_1 4 := C
  refine Y_aload_n C dL_law_352 rfl rfl ?_
  refine Y_arg C X hLn (i := i) (j := 1) (by omega) rfl rfl (by decide) dL_law_353 dL_law_354 dL_law_355 dL_law_356 dL_law_357 ?_
  refine Y_arg C X hLn (i := i) (j := 2) (by omega) rfl rfl (by decide) dL_law_358 dL_law_359 dL_law_360 dL_law_361 dL_law_362 ?_
  refine Y_callVi (w0 := wC Z) (x := x) (As := [.int (xs (i + 1)), .int (xs (i + 2))]) C (c_X5_sway l0 Z x A hA hk (xs (i + 1)) (xs (i + 2))) cw_RL_31 wd_14_6 wd_14_7 (q0 := 0) (ci := 5) (N := 8) rfl rfl rfl rfl (Nat.le_of_ble_eq_true rfl) rfl rfl (Nat.le_of_ble_eq_true rfl) (Nat.le_of_ble_eq_true rfl) (Nat.le_of_ble_eq_true rfl) (Nat.le_of_ble_eq_true rfl) dL_law_363 (fun r1 x1 hp => ?_)
  obtain ⟨hr1, hA1⟩ := hp
  refine Y_aload_n C dL_law_366 rfl rfl ?_
  refine Y_arg C X hLn (i := i) (j := 1) (by omega) rfl rfl (by decide) dL_law_367 dL_law_368 dL_law_369 dL_law_370 dL_law_371 ?_
  refine Y_arg C X hLn (i := i) (j := 2) (by omega) rfl rfl (by decide) dL_law_372 dL_law_373 dL_law_374 dL_law_375 dL_law_376 ?_
  refine Y_sw ?_
  refine Y_callVi (w0 := wM (Z.1, aM, Z.2.2)) (x := y) (As := [.int (xs (i + 1)), .int (xs (i + 2))]) C2 (c_X6_sway l0 (Z.1, aM, Z.2.2) y A hM hk (xs (i + 1)) (xs (i + 2))) cw_RL_34 wd_14_13 wd_14_14 (q0 := 0) (ci := 6) (N := 33) rfl rfl rfl rfl (Nat.le_of_ble_eq_true rfl) rfl rfl (Nat.le_of_ble_eq_true rfl) (Nat.le_of_ble_eq_true rfl) (Nat.le_of_ble_eq_true rfl) (Nat.le_of_ble_eq_true rfl) dL_law_377 (fun r2 y1 hp => ?_)
  obtain ⟨hr2, hM1⟩ := hp
  refine Y_sw ?_
  exact Y_icmp_eq (tgt := 1418) C dL_law_380 (by decide) (fun _ => kk x1 y1 _ hA1 hM1 (ok_sway hk (xs (i + 1)) (xs (i + 2)))) (fun h => absurd (hr1.trans hr2.symm) h)
set_option maxRecDepth 20000 in
theorem lc_seat (C : CY l0 Z Γ cL_law RL room_1 4) (X : XY Γ b Ln xs) (hLn : Ln ≤ 448) {i : Nat} (hi : i + 7 ≤ Ln) {x : St} {y : Mt} {A : AB} (hA : AbsC x A) (hM : AbsM y A) (hk : AOK A) (kk : ∀ (x1 : St) (y1 : Mt) (A1 : AB), AbsC x1 A1 → AbsM y1 A1 → AOK A1 → YJ Γ (wM (Z.1, aM, Z.2.2) y1 ++ wC Z x1) 600000 7302250 1418 [some (.ref b), some (.ref (Z.2.1 0)), some (.ref (aM 0)), some (.int (nI i))] []) : YJ Γ (wM (Z.1, aM, Z.2.2) y ++ wC Z x) 600000 7302250 385 [some (.ref b), some (.ref (Z.2.1 0)), some (.ref (aM 0)), some (.int (nI i))] [] := by
  have C2 : CY l0 (Z.1, aM, Z.2.2) Γ cL_law RL room_1 4 := C
  refine Y_aload_n C dL_law_385 rfl rfl ?_
  refine Y_arg C X hLn (i := i) (j := 1) (by omega) rfl rfl (by decide) dL_law_386 dL_law_387 dL_law_388 dL_law_389 dL_law_390 ?_
  refine Y_arg C X hLn (i := i) (j := 2) (by omega) rfl rfl (by decide) dL_law_391 dL_law_392 dL_law_393 dL_law_394 dL_law_395 ?_
  refine Y_callVi (w0 := wC Z) (x := x) (As := [.int (xs (i + 1)), .int (xs (i + 2))]) C (c_X5_seat l0 Z x A hA hk (xs (i + 1)) (xs (i + 2))) cw_RL_35 wd_14_20 wd_14_21 (q0 := 0) (ci := 5) (N := 8) rfl rfl rfl rfl (Nat.le_of_ble_eq_true rfl) rfl rfl (Nat.le_of_ble_eq_true rfl) (Nat.le_of_ble_eq_true rfl) (Nat.le_of_ble_eq_true rfl) (Nat.le_of_ble_eq_true rfl) dL_law_396 (fun r1 x1 hp => ?_)
  obtain ⟨hr1, hA1⟩ := hp
  refine Y_aload_n C dL_law_399 rfl rfl ?_
  refine Y_arg C X hLn (i := i) (j := 1) (by omega) rfl rfl (by decide) dL_law_400 dL_law_401 dL_law_402 dL_law_403 dL_law_404 ?_
  refine Y_arg C X hLn (i := i) (j := 2) (by omega) rfl rfl (by decide) dL_law_405 dL_law_406 dL_law_407 dL_law_408 dL_law_409 ?_
  refine Y_sw ?_
  refine Y_callVi (w0 := wM (Z.1, aM, Z.2.2)) (x := y) (As := [.int (xs (i + 1)), .int (xs (i + 2))]) C2 (c_X6_seat l0 (Z.1, aM, Z.2.2) y A hM hk (xs (i + 1)) (xs (i + 2))) cw_RL_38 wd_15_0 wd_15_1 (q0 := 0) (ci := 6) (N := 33) rfl rfl rfl rfl (Nat.le_of_ble_eq_true rfl) rfl rfl (Nat.le_of_ble_eq_true rfl) (Nat.le_of_ble_eq_true rfl) (Nat.le_of_ble_eq_true rfl) (Nat.le_of_ble_eq_true rfl) dL_law_410 (fun r2 y1 hp => ?_)
  obtain ⟨hr2, hM1⟩ := hp
  refine Y_sw ?_
  exact Y_icmp_eq (tgt := 1418) C dL_law_413 (by decide) (fun _ => kk x1 y1 _ hA1 hM1 (ok_seat hk (xs (i + 1)) (xs (i + 2)))) (fun h => absurd (hr1.trans hr2.symm) h)
set_option maxRecDepth 20000 in
theorem lc_flow (C : CY l0 Z Γ cL_law RL room_1 4) (X : XY Γ b Ln xs) (hLn : Ln ≤ 448) {i : Nat} (hi : i + 7 ≤ Ln) {x : St} {y : Mt} {A : AB} (hA : AbsC x A) (hM : AbsM y A) (hk : AOK A) (kk : ∀ (x1 : St) (y1 : Mt) (A1 : AB), AbsC x1 A1 → AbsM y1 A1 → AOK A1 → YJ Γ (wM (Z.1, aM, Z.2.2) y1 ++ wC Z x1) 600000 7302250 1418 [some (.ref b), some (.ref (Z.2.1 0)), some (.ref (aM 0)), some (.int (nI i))] []) : YJ Γ (wM (Z.1, aM, Z.2.2) y ++ wC Z x) 600000 7302250 418 [some (.ref b), some (.ref (Z.2.1 0)), some (.ref (aM 0)), some (.int (nI i))] [] := by
  have C2 : CY l0 (Z.1, aM, Z.2.2) Γ cL_law RL room_1 4 := C
  refine Y_aload_n C dL_law_418 rfl rfl ?_
  refine Y_arg C X hLn (i := i) (j := 1) (by omega) rfl rfl (by decide) dL_law_419 dL_law_420 dL_law_421 dL_law_422 dL_law_423 ?_
  refine Y_callVi (w0 := wC Z) (x := x) (As := [.int (xs (i + 1))]) C (c_X5_flow l0 Z x A hA hk (xs (i + 1))) cw_RL_39 wd_15_4 wd_15_5 (q0 := 0) (ci := 5) (N := 8) rfl rfl rfl rfl (Nat.le_of_ble_eq_true rfl) rfl rfl (Nat.le_of_ble_eq_true rfl) (Nat.le_of_ble_eq_true rfl) (Nat.le_of_ble_eq_true rfl) (Nat.le_of_ble_eq_true rfl) dL_law_424 (fun r1 x1 hp => ?_)
  obtain ⟨hr1, hA1⟩ := hp
  refine Y_aload_n C dL_law_427 rfl rfl ?_
  refine Y_arg C X hLn (i := i) (j := 1) (by omega) rfl rfl (by decide) dL_law_428 dL_law_429 dL_law_430 dL_law_431 dL_law_432 ?_
  refine Y_sw ?_
  refine Y_callVi (w0 := wM (Z.1, aM, Z.2.2)) (x := y) (As := [.int (xs (i + 1))]) C2 (c_X6_flow l0 (Z.1, aM, Z.2.2) y A hM hk (xs (i + 1))) cw_RL_43 wd_15_17 wd_15_18 (q0 := 0) (ci := 6) (N := 33) rfl rfl rfl rfl (Nat.le_of_ble_eq_true rfl) rfl rfl (Nat.le_of_ble_eq_true rfl) (Nat.le_of_ble_eq_true rfl) (Nat.le_of_ble_eq_true rfl) (Nat.le_of_ble_eq_true rfl) dL_law_433 (fun r2 y1 hp => ?_)
  obtain ⟨hr2, hM1⟩ := hp
  refine Y_sw ?_
  exact Y_icmp_eq (tgt := 1418) C dL_law_436 (by decide) (fun _ => kk x1 y1 _ hA1 hM1 (ok_flow hk (xs (i + 1)))) (fun h => absurd (hr1.trans hr2.symm) h)
set_option maxRecDepth 20000 in
theorem lc_calm (C : CY l0 Z Γ cL_law RL room_1 4) (X : XY Γ b Ln xs) (hLn : Ln ≤ 448) {i : Nat} (hi : i + 7 ≤ Ln) {x : St} {y : Mt} {A : AB} (hA : AbsC x A) (hM : AbsM y A) (hk : AOK A) (kk : ∀ (x1 : St) (y1 : Mt) (A1 : AB), AbsC x1 A1 → AbsM y1 A1 → AOK A1 → YJ Γ (wM (Z.1, aM, Z.2.2) y1 ++ wC Z x1) 600000 7302250 1418 [some (.ref b), some (.ref (Z.2.1 0)), some (.ref (aM 0)), some (.int (nI i))] []) : YJ Γ (wM (Z.1, aM, Z.2.2) y ++ wC Z x) 600000 7302250 441 [some (.ref b), some (.ref (Z.2.1 0)), some (.ref (aM 0)), some (.int (nI i))] [] := by
  have C2 : CY l0 (Z.1, aM, Z.2.2) Γ cL_law RL room_1 4 := C
  refine Y_aload_n C dL_law_441 rfl rfl ?_
  refine Y_arg C X hLn (i := i) (j := 1) (by omega) rfl rfl (by decide) dL_law_442 dL_law_443 dL_law_444 dL_law_445 dL_law_446 ?_
  refine Y_callVi (w0 := wC Z) (x := x) (As := [.int (xs (i + 1))]) C (c_X5_calm l0 Z x A hA hk (xs (i + 1))) cw_RL_44 wd_15_21 wd_15_22 (q0 := 0) (ci := 5) (N := 8) rfl rfl rfl rfl (Nat.le_of_ble_eq_true rfl) rfl rfl (Nat.le_of_ble_eq_true rfl) (Nat.le_of_ble_eq_true rfl) (Nat.le_of_ble_eq_true rfl) (Nat.le_of_ble_eq_true rfl) dL_law_447 (fun r1 x1 hp => ?_)
  obtain ⟨hr1, hA1⟩ := hp
  refine Y_aload_n C dL_law_450 rfl rfl ?_
  refine Y_arg C X hLn (i := i) (j := 1) (by omega) rfl rfl (by decide) dL_law_451 dL_law_452 dL_law_453 dL_law_454 dL_law_455 ?_
  refine Y_sw ?_
  refine Y_callVi (w0 := wM (Z.1, aM, Z.2.2)) (x := y) (As := [.int (xs (i + 1))]) C2 (c_X6_calm l0 (Z.1, aM, Z.2.2) y A hM hk (xs (i + 1))) cw_RL_47 wd_16_2 wd_16_3 (q0 := 0) (ci := 6) (N := 33) rfl rfl rfl rfl (Nat.le_of_ble_eq_true rfl) rfl rfl (Nat.le_of_ble_eq_true rfl) (Nat.le_of_ble_eq_true rfl) (Nat.le_of_ble_eq_true rfl) (Nat.le_of_ble_eq_true rfl) dL_law_456 (fun r2 y1 hp => ?_)
  obtain ⟨hr2, hM1⟩ := hp
  refine Y_sw ?_
  exact Y_icmp_eq (tgt := 1418) C dL_law_459 (by decide) (fun _ => kk x1 y1 _ hA1 hM1 (ok_calm hk (xs (i + 1)))) (fun h => absurd (hr1.trans hr2.symm) h)
set_option maxRecDepth 20000 in
theorem lc_leap (C : CY l0 Z Γ cL_law RL room_1 4) (X : XY Γ b Ln xs) (hLn : Ln ≤ 448) {i : Nat} (hi : i + 7 ≤ Ln) {x : St} {y : Mt} {A : AB} (hA : AbsC x A) (hM : AbsM y A) (hk : AOK A) (kk : ∀ (x1 : St) (y1 : Mt) (A1 : AB), AbsC x1 A1 → AbsM y1 A1 → AOK A1 → YJ Γ (wM (Z.1, aM, Z.2.2) y1 ++ wC Z x1) 600000 7302250 1418 [some (.ref b), some (.ref (Z.2.1 0)), some (.ref (aM 0)), some (.int (nI i))] []) : YJ Γ (wM (Z.1, aM, Z.2.2) y ++ wC Z x) 600000 7302250 464 [some (.ref b), some (.ref (Z.2.1 0)), some (.ref (aM 0)), some (.int (nI i))] [] := by
  have C2 : CY l0 (Z.1, aM, Z.2.2) Γ cL_law RL room_1 4 := C
  refine Y_aload_n C dL_law_464 rfl rfl ?_
  refine Y_arg C X hLn (i := i) (j := 1) (by omega) rfl rfl (by decide) dL_law_465 dL_law_466 dL_law_467 dL_law_468 dL_law_469 ?_
  refine Y_callVi (w0 := wC Z) (x := x) (As := [.int (xs (i + 1))]) C (c_X5_leap l0 Z x A hA hk (xs (i + 1))) cw_RL_48 wd_16_6 wd_16_7 (q0 := 0) (ci := 5) (N := 8) rfl rfl rfl rfl (Nat.le_of_ble_eq_true rfl) rfl rfl (Nat.le_of_ble_eq_true rfl) (Nat.le_of_ble_eq_true rfl) (Nat.le_of_ble_eq_true rfl) (Nat.le_of_ble_eq_true rfl) dL_law_470 (fun r1 x1 hp => ?_)
  obtain ⟨hr1, hA1⟩ := hp
  refine Y_aload_n C dL_law_473 rfl rfl ?_
  refine Y_arg C X hLn (i := i) (j := 1) (by omega) rfl rfl (by decide) dL_law_474 dL_law_475 dL_law_476 dL_law_477 dL_law_478 ?_
  refine Y_sw ?_
  refine Y_callVi (w0 := wM (Z.1, aM, Z.2.2)) (x := y) (As := [.int (xs (i + 1))]) C2 (c_X6_leap l0 (Z.1, aM, Z.2.2) y A hM hk (xs (i + 1))) cw_RL_51 wd_16_11 wd_16_12 (q0 := 0) (ci := 6) (N := 33) rfl rfl rfl rfl (Nat.le_of_ble_eq_true rfl) rfl rfl (Nat.le_of_ble_eq_true rfl) (Nat.le_of_ble_eq_true rfl) (Nat.le_of_ble_eq_true rfl) (Nat.le_of_ble_eq_true rfl) dL_law_479 (fun r2 y1 hp => ?_)
  obtain ⟨hr2, hM1⟩ := hp
  refine Y_sw ?_
  exact Y_icmp_eq (tgt := 1418) C dL_law_482 (by decide) (fun _ => kk x1 y1 _ hA1 hM1 (ok_leap hk (xs (i + 1)))) (fun h => absurd (hr1.trans hr2.symm) h)
set_option maxRecDepth 20000 in
theorem lc_washed (C : CY l0 Z Γ cL_law RL room_1 4) (X : XY Γ b Ln xs) (hLn : Ln ≤ 448) {i : Nat} (hi : i + 7 ≤ Ln) {x : St} {y : Mt} {A : AB} (hA : AbsC x A) (hM : AbsM y A) (hk : AOK A) (kk : ∀ (x1 : St) (y1 : Mt) (A1 : AB), AbsC x1 A1 → AbsM y1 A1 → AOK A1 → YJ Γ (wM (Z.1, aM, Z.2.2) y1 ++ wC Z x1) 600000 7302250 1418 [some (.ref b), some (.ref (Z.2.1 0)), some (.ref (aM 0)), some (.int (nI i))] []) : YJ Γ (wM (Z.1, aM, Z.2.2) y ++ wC Z x) 600000 7302250 487 [some (.ref b), some (.ref (Z.2.1 0)), some (.ref (aM 0)), some (.int (nI i))] [] := by
  have C2 : CY l0 (Z.1, aM, Z.2.2) Γ cL_law RL room_1 4 := C
  refine Y_aload_n C dL_law_487 rfl rfl ?_
  refine Y_arg C X hLn (i := i) (j := 1) (by omega) rfl rfl (by decide) dL_law_488 dL_law_489 dL_law_490 dL_law_491 dL_law_492 ?_
  refine Y_callVi (w0 := wC Z) (x := x) (As := [.int (xs (i + 1))]) C (c_X5_washed l0 Z x A hA hk (xs (i + 1))) cw_RL_52 wd_16_15 wd_16_16 (q0 := 0) (ci := 5) (N := 8) rfl rfl rfl rfl (Nat.le_of_ble_eq_true rfl) rfl rfl (Nat.le_of_ble_eq_true rfl) (Nat.le_of_ble_eq_true rfl) (Nat.le_of_ble_eq_true rfl) (Nat.le_of_ble_eq_true rfl) dL_law_493 (fun r1 x1 hp => ?_)
  obtain ⟨hr1, hA1⟩ := hp
  refine Y_aload_n C dL_law_496 rfl rfl ?_
  refine Y_arg C X hLn (i := i) (j := 1) (by omega) rfl rfl (by decide) dL_law_497 dL_law_498 dL_law_499 dL_law_500 dL_law_501 ?_
  refine Y_sw ?_
  refine Y_callVi (w0 := wM (Z.1, aM, Z.2.2)) (x := y) (As := [.int (xs (i + 1))]) C2 (c_X6_washed l0 (Z.1, aM, Z.2.2) y A hM hk (xs (i + 1))) cw_RL_55 wd_17_3 wd_17_4 (q0 := 0) (ci := 6) (N := 33) rfl rfl rfl rfl (Nat.le_of_ble_eq_true rfl) rfl rfl (Nat.le_of_ble_eq_true rfl) (Nat.le_of_ble_eq_true rfl) (Nat.le_of_ble_eq_true rfl) (Nat.le_of_ble_eq_true rfl) dL_law_502 (fun r2 y1 hp => ?_)
  obtain ⟨hr2, hM1⟩ := hp
  refine Y_sw ?_
  exact Y_icmp_eq (tgt := 1418) C dL_law_505 (by decide) (fun _ => kk x1 y1 _ hA1 hM1 hk) (fun h => absurd (hr1.trans hr2.symm) h)
set_option maxRecDepth 20000 in
theorem lc_carried (C : CY l0 Z Γ cL_law RL room_1 4) (X : XY Γ b Ln xs) (hLn : Ln ≤ 448) {i : Nat} (hi : i + 7 ≤ Ln) {x : St} {y : Mt} {A : AB} (hA : AbsC x A) (hM : AbsM y A) (hk : AOK A) (kk : ∀ (x1 : St) (y1 : Mt) (A1 : AB), AbsC x1 A1 → AbsM y1 A1 → AOK A1 → YJ Γ (wM (Z.1, aM, Z.2.2) y1 ++ wC Z x1) 600000 7302250 1418 [some (.ref b), some (.ref (Z.2.1 0)), some (.ref (aM 0)), some (.int (nI i))] []) : YJ Γ (wM (Z.1, aM, Z.2.2) y ++ wC Z x) 600000 7302250 510 [some (.ref b), some (.ref (Z.2.1 0)), some (.ref (aM 0)), some (.int (nI i))] [] := by
  have C2 : CY l0 (Z.1, aM, Z.2.2) Γ cL_law RL room_1 4 := C
  refine Y_aload_n C dL_law_510 rfl rfl ?_
  refine Y_arg C X hLn (i := i) (j := 1) (by omega) rfl rfl (by decide) dL_law_511 dL_law_512 dL_law_513 dL_law_514 dL_law_515 ?_
  refine Y_arg C X hLn (i := i) (j := 2) (by omega) rfl rfl (by decide) dL_law_516 dL_law_517 dL_law_518 dL_law_519 dL_law_520 ?_
  refine Y_callVi (w0 := wC Z) (x := x) (As := [.int (xs (i + 1)), .int (xs (i + 2))]) C (c_X5_carried l0 Z x A hA hk (xs (i + 1)) (xs (i + 2))) cw_RL_56 wd_17_11 wd_17_12 (q0 := 0) (ci := 5) (N := 8) rfl rfl rfl rfl (Nat.le_of_ble_eq_true rfl) rfl rfl (Nat.le_of_ble_eq_true rfl) (Nat.le_of_ble_eq_true rfl) (Nat.le_of_ble_eq_true rfl) (Nat.le_of_ble_eq_true rfl) dL_law_521 (fun r1 x1 hp => ?_)
  obtain ⟨hr1, hA1⟩ := hp
  refine Y_aload_n C dL_law_524 rfl rfl ?_
  refine Y_arg C X hLn (i := i) (j := 1) (by omega) rfl rfl (by decide) dL_law_525 dL_law_526 dL_law_527 dL_law_528 dL_law_529 ?_
  refine Y_arg C X hLn (i := i) (j := 2) (by omega) rfl rfl (by decide) dL_law_530 dL_law_531 dL_law_532 dL_law_533 dL_law_534 ?_
  refine Y_sw ?_
  refine Y_callVi (w0 := wM (Z.1, aM, Z.2.2)) (x := y) (As := [.int (xs (i + 1)), .int (xs (i + 2))]) C2 (c_X6_carried l0 (Z.1, aM, Z.2.2) y A hM hk (xs (i + 1)) (xs (i + 2))) cw_RL_59 wd_18_4 wd_18_5 (q0 := 0) (ci := 6) (N := 33) rfl rfl rfl rfl (Nat.le_of_ble_eq_true rfl) rfl rfl (Nat.le_of_ble_eq_true rfl) (Nat.le_of_ble_eq_true rfl) (Nat.le_of_ble_eq_true rfl) (Nat.le_of_ble_eq_true rfl) dL_law_535 (fun r2 y1 hp => ?_)
  obtain ⟨hr2, hM1⟩ := hp
  refine Y_sw ?_
  exact Y_icmp_eq (tgt := 1418) C dL_law_538 (by decide) (fun _ => kk x1 y1 _ hA1 hM1 hk) (fun h => absurd (hr1.trans hr2.symm) h)
set_option maxRecDepth 20000 in
theorem lc_tide (C : CY l0 Z Γ cL_law RL room_1 4) (X : XY Γ b Ln xs) (hLn : Ln ≤ 448) {i : Nat} (hi : i + 7 ≤ Ln) {x : St} {y : Mt} {A : AB} (hA : AbsC x A) (hM : AbsM y A) (hk : AOK A) (kk : ∀ (x1 : St) (y1 : Mt) (A1 : AB), AbsC x1 A1 → AbsM y1 A1 → AOK A1 → YJ Γ (wM (Z.1, aM, Z.2.2) y1 ++ wC Z x1) 600000 7302250 1418 [some (.ref b), some (.ref (Z.2.1 0)), some (.ref (aM 0)), some (.int (nI i))] []) : YJ Γ (wM (Z.1, aM, Z.2.2) y ++ wC Z x) 600000 7302250 543 [some (.ref b), some (.ref (Z.2.1 0)), some (.ref (aM 0)), some (.int (nI i))] [] := by
  have C2 : CY l0 (Z.1, aM, Z.2.2) Γ cL_law RL room_1 4 := C
  refine Y_aload_n C dL_law_543 rfl rfl ?_
  refine Y_arg C X hLn (i := i) (j := 1) (by omega) rfl rfl (by decide) dL_law_544 dL_law_545 dL_law_546 dL_law_547 dL_law_548 ?_
  refine Y_callVi (w0 := wC Z) (x := x) (As := [.int (xs (i + 1))]) C (c_X5_tide l0 Z x A hA hk (xs (i + 1))) cw_RL_60 wd_18_12 wd_18_13 (q0 := 0) (ci := 5) (N := 8) rfl rfl rfl rfl (Nat.le_of_ble_eq_true rfl) rfl rfl (Nat.le_of_ble_eq_true rfl) (Nat.le_of_ble_eq_true rfl) (Nat.le_of_ble_eq_true rfl) (Nat.le_of_ble_eq_true rfl) dL_law_549 (fun r1 x1 hp => ?_)
  obtain ⟨hr1, hA1⟩ := hp
  refine Y_aload_n C dL_law_552 rfl rfl ?_
  refine Y_arg C X hLn (i := i) (j := 1) (by omega) rfl rfl (by decide) dL_law_553 dL_law_554 dL_law_555 dL_law_556 dL_law_557 ?_
  refine Y_sw ?_
  refine Y_callVi (w0 := wM (Z.1, aM, Z.2.2)) (x := y) (As := [.int (xs (i + 1))]) C2 (c_X6_tide l0 (Z.1, aM, Z.2.2) y A hM hk (xs (i + 1))) cw_RL_63 wd_18_23 wd_19_0 (q0 := 0) (ci := 6) (N := 33) rfl rfl rfl rfl (Nat.le_of_ble_eq_true rfl) rfl rfl (Nat.le_of_ble_eq_true rfl) (Nat.le_of_ble_eq_true rfl) (Nat.le_of_ble_eq_true rfl) (Nat.le_of_ble_eq_true rfl) dL_law_558 (fun r2 y1 hp => ?_)
  obtain ⟨hr2, hM1⟩ := hp
  refine Y_sw ?_
  exact Y_icmp_eq (tgt := 1418) C dL_law_561 (by decide) (fun _ => kk x1 y1 _ hA1 hM1 (ok_tide hk (xs (i + 1)))) (fun h => absurd (hr1.trans hr2.symm) h)
set_option maxRecDepth 20000 in
theorem lc_ayes (C : CY l0 Z Γ cL_law RL room_1 4) (X : XY Γ b Ln xs) (hLn : Ln ≤ 448) {i : Nat} (hi : i + 7 ≤ Ln) {x : St} {y : Mt} {A : AB} (hA : AbsC x A) (hM : AbsM y A) (hk : AOK A) (kk : ∀ (x1 : St) (y1 : Mt) (A1 : AB), AbsC x1 A1 → AbsM y1 A1 → AOK A1 → YJ Γ (wM (Z.1, aM, Z.2.2) y1 ++ wC Z x1) 600000 7302250 1418 [some (.ref b), some (.ref (Z.2.1 0)), some (.ref (aM 0)), some (.int (nI i))] []) : YJ Γ (wM (Z.1, aM, Z.2.2) y ++ wC Z x) 600000 7302250 566 [some (.ref b), some (.ref (Z.2.1 0)), some (.ref (aM 0)), some (.int (nI i))] [] := by
  have C2 : CY l0 (Z.1, aM, Z.2.2) Γ cL_law RL room_1 4 := C
  refine Y_aload_n C dL_law_566 rfl rfl ?_
  refine Y_arg C X hLn (i := i) (j := 1) (by omega) rfl rfl (by decide) dL_law_567 dL_law_568 dL_law_569 dL_law_570 dL_law_571 ?_
  refine Y_callVi (w0 := wC Z) (x := x) (As := [.int (xs (i + 1))]) C (c_X5_ayes l0 Z x A hA hk (xs (i + 1))) cw_RL_64 wd_19_7 wd_19_8 (q0 := 0) (ci := 5) (N := 8) rfl rfl rfl rfl (Nat.le_of_ble_eq_true rfl) rfl rfl (Nat.le_of_ble_eq_true rfl) (Nat.le_of_ble_eq_true rfl) (Nat.le_of_ble_eq_true rfl) (Nat.le_of_ble_eq_true rfl) dL_law_572 (fun r1 x1 hp => ?_)
  obtain ⟨hr1, hA1⟩ := hp
  refine Y_aload_n C dL_law_575 rfl rfl ?_
  refine Y_arg C X hLn (i := i) (j := 1) (by omega) rfl rfl (by decide) dL_law_576 dL_law_577 dL_law_578 dL_law_579 dL_law_580 ?_
  refine Y_sw ?_
  refine Y_callVi (w0 := wM (Z.1, aM, Z.2.2)) (x := y) (As := [.int (xs (i + 1))]) C2 (c_X6_ayes l0 (Z.1, aM, Z.2.2) y A hM hk (xs (i + 1))) cw_RL_67 wd_19_19 wd_19_20 (q0 := 0) (ci := 6) (N := 33) rfl rfl rfl rfl (Nat.le_of_ble_eq_true rfl) rfl rfl (Nat.le_of_ble_eq_true rfl) (Nat.le_of_ble_eq_true rfl) (Nat.le_of_ble_eq_true rfl) (Nat.le_of_ble_eq_true rfl) dL_law_581 (fun r2 y1 hp => ?_)
  obtain ⟨hr2, hM1⟩ := hp
  refine Y_sw ?_
  exact Y_icmp_eq (tgt := 1418) C dL_law_584 (by decide) (fun _ => kk x1 y1 _ hA1 hM1 hk) (fun h => absurd (hr1.trans hr2.symm) h)
set_option maxRecDepth 20000 in
theorem lc_passes (C : CY l0 Z Γ cL_law RL room_1 4) (X : XY Γ b Ln xs) (hLn : Ln ≤ 448) {i : Nat} (hi : i + 7 ≤ Ln) {x : St} {y : Mt} {A : AB} (hA : AbsC x A) (hM : AbsM y A) (hk : AOK A) (kk : ∀ (x1 : St) (y1 : Mt) (A1 : AB), AbsC x1 A1 → AbsM y1 A1 → AOK A1 → YJ Γ (wM (Z.1, aM, Z.2.2) y1 ++ wC Z x1) 600000 7302250 1418 [some (.ref b), some (.ref (Z.2.1 0)), some (.ref (aM 0)), some (.int (nI i))] []) : YJ Γ (wM (Z.1, aM, Z.2.2) y ++ wC Z x) 600000 7302250 589 [some (.ref b), some (.ref (Z.2.1 0)), some (.ref (aM 0)), some (.int (nI i))] [] := by
  have C2 : CY l0 (Z.1, aM, Z.2.2) Γ cL_law RL room_1 4 := C
  refine Y_aload_n C dL_law_589 rfl rfl ?_
  refine Y_arg C X hLn (i := i) (j := 1) (by omega) rfl rfl (by decide) dL_law_590 dL_law_591 dL_law_592 dL_law_593 dL_law_594 ?_
  refine Y_callVi (w0 := wC Z) (x := x) (As := [.int (xs (i + 1))]) C (c_X5_passes l0 Z x A hA hk (xs (i + 1))) cw_RL_68 wd_20_3 wd_20_4 (q0 := 0) (ci := 5) (N := 8) rfl rfl rfl rfl (Nat.le_of_ble_eq_true rfl) rfl rfl (Nat.le_of_ble_eq_true rfl) (Nat.le_of_ble_eq_true rfl) (Nat.le_of_ble_eq_true rfl) (Nat.le_of_ble_eq_true rfl) dL_law_595 (fun r1 x1 hp => ?_)
  obtain ⟨hr1, hA1⟩ := hp
  refine Y_aload_n C dL_law_598 rfl rfl ?_
  refine Y_arg C X hLn (i := i) (j := 1) (by omega) rfl rfl (by decide) dL_law_599 dL_law_600 dL_law_601 dL_law_602 dL_law_603 ?_
  refine Y_sw ?_
  refine Y_callVi (w0 := wM (Z.1, aM, Z.2.2)) (x := y) (As := [.int (xs (i + 1))]) C2 (c_X6_passes l0 (Z.1, aM, Z.2.2) y A hM hk (xs (i + 1))) cw_RL_71 wd_20_11 wd_20_12 (q0 := 0) (ci := 6) (N := 33) rfl rfl rfl rfl (Nat.le_of_ble_eq_true rfl) rfl rfl (Nat.le_of_ble_eq_true rfl) (Nat.le_of_ble_eq_true rfl) (Nat.le_of_ble_eq_true rfl) (Nat.le_of_ble_eq_true rfl) dL_law_604 (fun r2 y1 hp => ?_)
  obtain ⟨hr2, hM1⟩ := hp
  refine Y_sw ?_
  exact Y_icmp_eq (tgt := 1418) C dL_law_607 (by decide) (fun _ => kk x1 y1 _ hA1 hM1 hk) (fun h => absurd (hr1.trans hr2.symm) h)
set_option maxRecDepth 20000 in
theorem lc_law (C : CY l0 Z Γ cL_law RL room_1 4) (X : XY Γ b Ln xs) (hLn : Ln ≤ 448) {i : Nat} (hi : i + 7 ≤ Ln) {x : St} {y : Mt} {A : AB} (hA : AbsC x A) (hM : AbsM y A) (hk : AOK A) (kk : ∀ (x1 : St) (y1 : Mt) (A1 : AB), AbsC x1 A1 → AbsM y1 A1 → AOK A1 → YJ Γ (wM (Z.1, aM, Z.2.2) y1 ++ wC Z x1) 600000 7302250 1418 [some (.ref b), some (.ref (Z.2.1 0)), some (.ref (aM 0)), some (.int (nI i))] []) : YJ Γ (wM (Z.1, aM, Z.2.2) y ++ wC Z x) 600000 7302250 612 [some (.ref b), some (.ref (Z.2.1 0)), some (.ref (aM 0)), some (.int (nI i))] [] := by
  have C2 : CY l0 (Z.1, aM, Z.2.2) Γ cL_law RL room_1 4 := C
  refine Y_aload_n C dL_law_612 rfl rfl ?_
  refine Y_arg C X hLn (i := i) (j := 1) (by omega) rfl rfl (by decide) dL_law_613 dL_law_614 dL_law_615 dL_law_616 dL_law_617 ?_
  refine Y_callVi (w0 := wC Z) (x := x) (As := [.int (xs (i + 1))]) C (c_X5_law l0 Z x A hA hk (xs (i + 1))) cw_RL_72 wd_20_19 wd_20_20 (q0 := 0) (ci := 5) (N := 8) rfl rfl rfl rfl (Nat.le_of_ble_eq_true rfl) rfl rfl (Nat.le_of_ble_eq_true rfl) (Nat.le_of_ble_eq_true rfl) (Nat.le_of_ble_eq_true rfl) (Nat.le_of_ble_eq_true rfl) dL_law_618 (fun r1 x1 hp => ?_)
  obtain ⟨hr1, hA1⟩ := hp
  refine Y_aload_n C dL_law_621 rfl rfl ?_
  refine Y_arg C X hLn (i := i) (j := 1) (by omega) rfl rfl (by decide) dL_law_622 dL_law_623 dL_law_624 dL_law_625 dL_law_626 ?_
  refine Y_sw ?_
  refine Y_callVi (w0 := wM (Z.1, aM, Z.2.2)) (x := y) (As := [.int (xs (i + 1))]) C2 (c_X6_law l0 (Z.1, aM, Z.2.2) y A hM hk (xs (i + 1))) cw_RL_75 wd_21_9 wd_21_10 (q0 := 0) (ci := 6) (N := 33) rfl rfl rfl rfl (Nat.le_of_ble_eq_true rfl) rfl rfl (Nat.le_of_ble_eq_true rfl) (Nat.le_of_ble_eq_true rfl) (Nat.le_of_ble_eq_true rfl) (Nat.le_of_ble_eq_true rfl) dL_law_627 (fun r2 y1 hp => ?_)
  obtain ⟨hr2, hM1⟩ := hp
  refine Y_sw ?_
  exact Y_icmp_eq (tgt := 1418) C dL_law_630 (by decide) (fun _ => kk x1 y1 _ hA1 hM1 hk) (fun h => absurd (hr1.trans hr2.symm) h)
set_option maxRecDepth 20000 in
theorem lc_year (C : CY l0 Z Γ cL_law RL room_1 4) (X : XY Γ b Ln xs) (hLn : Ln ≤ 448) {i : Nat} (hi : i + 7 ≤ Ln) {x : St} {y : Mt} {A : AB} (hA : AbsC x A) (hM : AbsM y A) (hk : AOK A) (kk : ∀ (x1 : St) (y1 : Mt) (A1 : AB), AbsC x1 A1 → AbsM y1 A1 → AOK A1 → YJ Γ (wM (Z.1, aM, Z.2.2) y1 ++ wC Z x1) 600000 7302250 1418 [some (.ref b), some (.ref (Z.2.1 0)), some (.ref (aM 0)), some (.int (nI i))] []) : YJ Γ (wM (Z.1, aM, Z.2.2) y ++ wC Z x) 600000 7302250 635 [some (.ref b), some (.ref (Z.2.1 0)), some (.ref (aM 0)), some (.int (nI i))] [] := by
  have C2 : CY l0 (Z.1, aM, Z.2.2) Γ cL_law RL room_1 4 := C
  refine Y_aload_n C dL_law_635 rfl rfl ?_
  refine Y_arg C X hLn (i := i) (j := 1) (by omega) rfl rfl (by decide) dL_law_636 dL_law_637 dL_law_638 dL_law_639 dL_law_640 ?_
  refine Y_arg C X hLn (i := i) (j := 2) (by omega) rfl rfl (by decide) dL_law_641 dL_law_642 dL_law_643 dL_law_644 dL_law_645 ?_
  refine Y_arg C X hLn (i := i) (j := 3) (by omega) rfl rfl (by decide) dL_law_646 dL_law_647 dL_law_648 dL_law_649 dL_law_650 ?_
  refine Y_arg C X hLn (i := i) (j := 4) (by omega) rfl rfl (by decide) dL_law_651 dL_law_652 dL_law_653 dL_law_654 dL_law_655 ?_
  refine Y_arg C X hLn (i := i) (j := 5) (by omega) rfl rfl (by decide) dL_law_656 dL_law_657 dL_law_658 dL_law_659 dL_law_660 ?_
  refine Y_callVi (w0 := wC Z) (x := x) (As := [.int (xs (i + 1)), .int (xs (i + 2)), .int (xs (i + 3)), .int (xs (i + 4)), .int (xs (i + 5))]) C (c_X5_year l0 Z x A hA hk (xs (i + 1)) (xs (i + 2)) (xs (i + 3)) (xs (i + 4)) (xs (i + 5))) cw_RL_76 wd_21_21 wd_21_22 (q0 := 0) (ci := 5) (N := 8) rfl rfl rfl rfl (Nat.le_of_ble_eq_true rfl) rfl rfl (Nat.le_of_ble_eq_true rfl) (Nat.le_of_ble_eq_true rfl) (Nat.le_of_ble_eq_true rfl) (Nat.le_of_ble_eq_true rfl) dL_law_661 (fun r1 x1 hp => ?_)
  obtain ⟨hr1, hA1⟩ := hp
  refine Y_aload_n C dL_law_664 rfl rfl ?_
  refine Y_arg C X hLn (i := i) (j := 1) (by omega) rfl rfl (by decide) dL_law_665 dL_law_666 dL_law_667 dL_law_668 dL_law_669 ?_
  refine Y_arg C X hLn (i := i) (j := 2) (by omega) rfl rfl (by decide) dL_law_670 dL_law_671 dL_law_672 dL_law_673 dL_law_674 ?_
  refine Y_arg C X hLn (i := i) (j := 3) (by omega) rfl rfl (by decide) dL_law_675 dL_law_676 dL_law_677 dL_law_678 dL_law_679 ?_
  refine Y_arg C X hLn (i := i) (j := 4) (by omega) rfl rfl (by decide) dL_law_680 dL_law_681 dL_law_682 dL_law_683 dL_law_684 ?_
  refine Y_arg C X hLn (i := i) (j := 5) (by omega) rfl rfl (by decide) dL_law_685 dL_law_686 dL_law_687 dL_law_688 dL_law_689 ?_
  refine Y_sw ?_
  refine Y_callVi (w0 := wM (Z.1, aM, Z.2.2)) (x := y) (As := [.int (xs (i + 1)), .int (xs (i + 2)), .int (xs (i + 3)), .int (xs (i + 4)), .int (xs (i + 5))]) C2 (c_X6_year l0 (Z.1, aM, Z.2.2) y A hM hk (xs (i + 1)) (xs (i + 2)) (xs (i + 3)) (xs (i + 4)) (xs (i + 5))) cw_RL_80 wd_23_10 wd_23_11 (q0 := 0) (ci := 6) (N := 33) rfl rfl rfl rfl (Nat.le_of_ble_eq_true rfl) rfl rfl (Nat.le_of_ble_eq_true rfl) (Nat.le_of_ble_eq_true rfl) (Nat.le_of_ble_eq_true rfl) (Nat.le_of_ble_eq_true rfl) dL_law_690 (fun r2 y1 hp => ?_)
  obtain ⟨hr2, hM1⟩ := hp
  refine Y_sw ?_
  exact Y_icmp_eq (tgt := 1418) C dL_law_693 (by decide) (fun _ => kk x1 y1 _ hA1 hM1 (ok_year hk (xs (i + 1)) (xs (i + 2)) (xs (i + 3)) (xs (i + 4)) (xs (i + 5)))) (fun h => absurd (hr1.trans hr2.symm) h)
set_option maxRecDepth 20000 in
theorem lc_best (C : CY l0 Z Γ cL_law RL room_1 4) (X : XY Γ b Ln xs) (hLn : Ln ≤ 448) {i : Nat} (hi : i + 7 ≤ Ln) {x : St} {y : Mt} {A : AB} (hA : AbsC x A) (hM : AbsM y A) (hk : AOK A) (kk : ∀ (x1 : St) (y1 : Mt) (A1 : AB), AbsC x1 A1 → AbsM y1 A1 → AOK A1 → YJ Γ (wM (Z.1, aM, Z.2.2) y1 ++ wC Z x1) 600000 7302250 1418 [some (.ref b), some (.ref (Z.2.1 0)), some (.ref (aM 0)), some (.int (nI i))] []) : YJ Γ (wM (Z.1, aM, Z.2.2) y ++ wC Z x) 600000 7302250 698 [some (.ref b), some (.ref (Z.2.1 0)), some (.ref (aM 0)), some (.int (nI i))] [] := by
  have C2 : CY l0 (Z.1, aM, Z.2.2) Γ cL_law RL room_1 4 := C
  refine Y_aload_n C dL_law_698 rfl rfl ?_
  refine Y_arg C X hLn (i := i) (j := 1) (by omega) rfl rfl (by decide) dL_law_699 dL_law_700 dL_law_701 dL_law_702 dL_law_703 ?_
  refine Y_callVi (w0 := wC Z) (x := x) (As := [.int (xs (i + 1))]) C (c_X5_best l0 Z x A hA hk (xs (i + 1))) cw_RL_81 wd_23_23 wd_24_0 (q0 := 0) (ci := 5) (N := 8) rfl rfl rfl rfl (Nat.le_of_ble_eq_true rfl) rfl rfl (Nat.le_of_ble_eq_true rfl) (Nat.le_of_ble_eq_true rfl) (Nat.le_of_ble_eq_true rfl) (Nat.le_of_ble_eq_true rfl) dL_law_704 (fun r1 x1 hp => ?_)
  obtain ⟨hr1, hA1⟩ := hp
  refine Y_aload_n C dL_law_707 rfl rfl ?_
  refine Y_arg C X hLn (i := i) (j := 1) (by omega) rfl rfl (by decide) dL_law_708 dL_law_709 dL_law_710 dL_law_711 dL_law_712 ?_
  refine Y_sw ?_
  refine Y_callVi (w0 := wM (Z.1, aM, Z.2.2)) (x := y) (As := [.int (xs (i + 1))]) C2 (c_X6_best l0 (Z.1, aM, Z.2.2) y A hM hk (xs (i + 1))) cw_RL_84 wd_24_4 wd_24_5 (q0 := 0) (ci := 6) (N := 33) rfl rfl rfl rfl (Nat.le_of_ble_eq_true rfl) rfl rfl (Nat.le_of_ble_eq_true rfl) (Nat.le_of_ble_eq_true rfl) (Nat.le_of_ble_eq_true rfl) (Nat.le_of_ble_eq_true rfl) dL_law_713 (fun r2 y1 hp => ?_)
  obtain ⟨hr2, hM1⟩ := hp
  refine Y_sw ?_
  exact Y_icmp_eq (tgt := 1418) C dL_law_716 (by decide) (fun _ => kk x1 y1 _ hA1 hM1 hk) (fun h => absurd (hr1.trans hr2.symm) h)
set_option maxRecDepth 20000 in
theorem lc_turn (C : CY l0 Z Γ cL_law RL room_1 4) (X : XY Γ b Ln xs) (hLn : Ln ≤ 448) {i : Nat} (hi : i + 7 ≤ Ln) {x : St} {y : Mt} {A : AB} (hA : AbsC x A) (hM : AbsM y A) (hk : AOK A) (kk : ∀ (x1 : St) (y1 : Mt) (A1 : AB), AbsC x1 A1 → AbsM y1 A1 → AOK A1 → YJ Γ (wM (Z.1, aM, Z.2.2) y1 ++ wC Z x1) 600000 7302250 1418 [some (.ref b), some (.ref (Z.2.1 0)), some (.ref (aM 0)), some (.int (nI i))] []) : YJ Γ (wM (Z.1, aM, Z.2.2) y ++ wC Z x) 600000 7302250 721 [some (.ref b), some (.ref (Z.2.1 0)), some (.ref (aM 0)), some (.int (nI i))] [] := by
  have C2 : CY l0 (Z.1, aM, Z.2.2) Γ cL_law RL room_1 4 := C
  refine Y_aload_n C dL_law_721 rfl rfl ?_
  refine Y_arg C X hLn (i := i) (j := 1) (by omega) rfl rfl (by decide) dL_law_722 dL_law_723 dL_law_724 dL_law_725 dL_law_726 ?_
  refine Y_callVi (w0 := wC Z) (x := x) (As := [.int (xs (i + 1))]) C (c_X5_turn l0 Z x A hA hk (xs (i + 1))) cw_RL_85 wd_24_8 wd_24_9 (q0 := 0) (ci := 5) (N := 8) rfl rfl rfl rfl (Nat.le_of_ble_eq_true rfl) rfl rfl (Nat.le_of_ble_eq_true rfl) (Nat.le_of_ble_eq_true rfl) (Nat.le_of_ble_eq_true rfl) (Nat.le_of_ble_eq_true rfl) dL_law_727 (fun r1 x1 hp => ?_)
  obtain ⟨hr1, hA1⟩ := hp
  refine Y_aload_n C dL_law_730 rfl rfl ?_
  refine Y_arg C X hLn (i := i) (j := 1) (by omega) rfl rfl (by decide) dL_law_731 dL_law_732 dL_law_733 dL_law_734 dL_law_735 ?_
  refine Y_sw ?_
  refine Y_callVi (w0 := wM (Z.1, aM, Z.2.2)) (x := y) (As := [.int (xs (i + 1))]) C2 (c_X6_turn l0 (Z.1, aM, Z.2.2) y A hM hk (xs (i + 1))) cw_RL_88 wd_24_16 wd_24_17 (q0 := 0) (ci := 6) (N := 33) rfl rfl rfl rfl (Nat.le_of_ble_eq_true rfl) rfl rfl (Nat.le_of_ble_eq_true rfl) (Nat.le_of_ble_eq_true rfl) (Nat.le_of_ble_eq_true rfl) (Nat.le_of_ble_eq_true rfl) dL_law_736 (fun r2 y1 hp => ?_)
  obtain ⟨hr2, hM1⟩ := hp
  refine Y_sw ?_
  exact Y_icmp_eq (tgt := 1418) C dL_law_739 (by decide) (fun _ => kk x1 y1 _ hA1 hM1 hk) (fun h => absurd (hr1.trans hr2.symm) h)
set_option maxRecDepth 20000 in
theorem lc_drift (C : CY l0 Z Γ cL_law RL room_1 4) (X : XY Γ b Ln xs) (hLn : Ln ≤ 448) {i : Nat} (hi : i + 7 ≤ Ln) {x : St} {y : Mt} {A : AB} (hA : AbsC x A) (hM : AbsM y A) (hk : AOK A) (kk : ∀ (x1 : St) (y1 : Mt) (A1 : AB), AbsC x1 A1 → AbsM y1 A1 → AOK A1 → YJ Γ (wM (Z.1, aM, Z.2.2) y1 ++ wC Z x1) 600000 7302250 1418 [some (.ref b), some (.ref (Z.2.1 0)), some (.ref (aM 0)), some (.int (nI i))] []) : YJ Γ (wM (Z.1, aM, Z.2.2) y ++ wC Z x) 600000 7302250 744 [some (.ref b), some (.ref (Z.2.1 0)), some (.ref (aM 0)), some (.int (nI i))] [] := by
  have C2 : CY l0 (Z.1, aM, Z.2.2) Γ cL_law RL room_1 4 := C
  refine Y_aload_n C dL_law_744 rfl rfl ?_
  refine Y_arg C X hLn (i := i) (j := 1) (by omega) rfl rfl (by decide) dL_law_745 dL_law_746 dL_law_747 dL_law_748 dL_law_749 ?_
  refine Y_arg C X hLn (i := i) (j := 2) (by omega) rfl rfl (by decide) dL_law_750 dL_law_751 dL_law_752 dL_law_753 dL_law_754 ?_
  refine Y_arg C X hLn (i := i) (j := 3) (by omega) rfl rfl (by decide) dL_law_755 dL_law_756 dL_law_757 dL_law_758 dL_law_759 ?_
  refine Y_arg C X hLn (i := i) (j := 4) (by omega) rfl rfl (by decide) dL_law_760 dL_law_761 dL_law_762 dL_law_763 dL_law_764 ?_
  refine Y_arg C X hLn (i := i) (j := 5) (by omega) rfl rfl (by decide) dL_law_765 dL_law_766 dL_law_767 dL_law_768 dL_law_769 ?_
  refine Y_arg6 C X hLn (i := i) (j := 6) (by omega) rfl rfl (by decide) dL_law_770 dL_law_771 dL_law_772 dL_law_774 dL_law_775 ?_
  refine Y_callVi (w0 := wC Z) (x := x) (As := [.int (xs (i + 1)), .int (xs (i + 2)), .int (xs (i + 3)), .int (xs (i + 4)), .int (xs (i + 5)), .int (xs (i + 6))]) C (c_X5_drift l0 Z x A hA hk (xs (i + 1)) (xs (i + 2)) (xs (i + 3)) (xs (i + 4)) (xs (i + 5)) (xs (i + 6))) cw_RL_89 wd_24_20 wd_24_21 (q0 := 0) (ci := 5) (N := 8) rfl rfl rfl rfl (Nat.le_of_ble_eq_true rfl) rfl rfl (Nat.le_of_ble_eq_true rfl) (Nat.le_of_ble_eq_true rfl) (Nat.le_of_ble_eq_true rfl) (Nat.le_of_ble_eq_true rfl) dL_law_776 (fun r1 x1 hp => ?_)
  obtain ⟨hr1, hA1⟩ := hp
  refine Y_aload_n C dL_law_779 rfl rfl ?_
  refine Y_arg C X hLn (i := i) (j := 1) (by omega) rfl rfl (by decide) dL_law_780 dL_law_781 dL_law_782 dL_law_783 dL_law_784 ?_
  refine Y_arg C X hLn (i := i) (j := 2) (by omega) rfl rfl (by decide) dL_law_785 dL_law_786 dL_law_787 dL_law_788 dL_law_789 ?_
  refine Y_arg C X hLn (i := i) (j := 3) (by omega) rfl rfl (by decide) dL_law_790 dL_law_791 dL_law_792 dL_law_793 dL_law_794 ?_
  refine Y_arg C X hLn (i := i) (j := 4) (by omega) rfl rfl (by decide) dL_law_795 dL_law_796 dL_law_797 dL_law_798 dL_law_799 ?_
  refine Y_arg C X hLn (i := i) (j := 5) (by omega) rfl rfl (by decide) dL_law_800 dL_law_801 dL_law_802 dL_law_803 dL_law_804 ?_
  refine Y_arg6 C X hLn (i := i) (j := 6) (by omega) rfl rfl (by decide) dL_law_805 dL_law_806 dL_law_807 dL_law_809 dL_law_810 ?_
  refine Y_sw ?_
  refine Y_callVi (w0 := wM (Z.1, aM, Z.2.2)) (x := y) (As := [.int (xs (i + 1)), .int (xs (i + 2)), .int (xs (i + 3)), .int (xs (i + 4)), .int (xs (i + 5)), .int (xs (i + 6))]) C2 (c_X6_drift l0 (Z.1, aM, Z.2.2) y A hM hk (xs (i + 1)) (xs (i + 2)) (xs (i + 3)) (xs (i + 4)) (xs (i + 5)) (xs (i + 6))) cw_RL_93 wd_25_12 wd_25_13 (q0 := 0) (ci := 6) (N := 33) rfl rfl rfl rfl (Nat.le_of_ble_eq_true rfl) rfl rfl (Nat.le_of_ble_eq_true rfl) (Nat.le_of_ble_eq_true rfl) (Nat.le_of_ble_eq_true rfl) (Nat.le_of_ble_eq_true rfl) dL_law_811 (fun r2 y1 hp => ?_)
  obtain ⟨hr2, hM1⟩ := hp
  refine Y_sw ?_
  exact Y_icmp_eq (tgt := 1418) C dL_law_814 (by decide) (fun _ => kk x1 y1 _ hA1 hM1 (ok_drift hk (xs (i + 1)) (xs (i + 2)) (xs (i + 3)) (xs (i + 4)) (xs (i + 5)) (xs (i + 6)))) (fun h => absurd (hr1.trans hr2.symm) h)
set_option maxRecDepth 20000 in
theorem lc_leaps (C : CY l0 Z Γ cL_law RL room_1 4) (X : XY Γ b Ln xs) (hLn : Ln ≤ 448) {i : Nat} (hi : i + 7 ≤ Ln) {x : St} {y : Mt} {A : AB} (hA : AbsC x A) (hM : AbsM y A) (hk : AOK A) (kk : ∀ (x1 : St) (y1 : Mt) (A1 : AB), AbsC x1 A1 → AbsM y1 A1 → AOK A1 → YJ Γ (wM (Z.1, aM, Z.2.2) y1 ++ wC Z x1) 600000 7302250 1418 [some (.ref b), some (.ref (Z.2.1 0)), some (.ref (aM 0)), some (.int (nI i))] []) : YJ Γ (wM (Z.1, aM, Z.2.2) y ++ wC Z x) 600000 7302250 819 [some (.ref b), some (.ref (Z.2.1 0)), some (.ref (aM 0)), some (.int (nI i))] [] := by
  have C2 : CY l0 (Z.1, aM, Z.2.2) Γ cL_law RL room_1 4 := C
  refine Y_aload_n C dL_law_819 rfl rfl ?_
  refine Y_arg C X hLn (i := i) (j := 1) (by omega) rfl rfl (by decide) dL_law_820 dL_law_821 dL_law_822 dL_law_823 dL_law_824 ?_
  refine Y_arg C X hLn (i := i) (j := 2) (by omega) rfl rfl (by decide) dL_law_825 dL_law_826 dL_law_827 dL_law_828 dL_law_829 ?_
  refine Y_arg C X hLn (i := i) (j := 3) (by omega) rfl rfl (by decide) dL_law_830 dL_law_831 dL_law_832 dL_law_833 dL_law_834 ?_
  refine Y_callVi (w0 := wC Z) (x := x) (As := [.int (xs (i + 1)), .int (xs (i + 2)), .int (xs (i + 3))]) C (c_X5_leaps l0 Z x A hA hk (xs (i + 1)) (xs (i + 2)) (xs (i + 3))) cw_RL_94 wd_25_20 wd_25_21 (q0 := 0) (ci := 5) (N := 8) rfl rfl rfl rfl (Nat.le_of_ble_eq_true rfl) rfl rfl (Nat.le_of_ble_eq_true rfl) (Nat.le_of_ble_eq_true rfl) (Nat.le_of_ble_eq_true rfl) (Nat.le_of_ble_eq_true rfl) dL_law_835 (fun r1 x1 hp => ?_)
  obtain ⟨hr1, hA1⟩ := hp
  refine Y_aload_n C dL_law_838 rfl rfl ?_
  refine Y_arg C X hLn (i := i) (j := 1) (by omega) rfl rfl (by decide) dL_law_839 dL_law_840 dL_law_841 dL_law_842 dL_law_843 ?_
  refine Y_arg C X hLn (i := i) (j := 2) (by omega) rfl rfl (by decide) dL_law_844 dL_law_845 dL_law_846 dL_law_847 dL_law_848 ?_
  refine Y_arg C X hLn (i := i) (j := 3) (by omega) rfl rfl (by decide) dL_law_849 dL_law_850 dL_law_851 dL_law_852 dL_law_853 ?_
  refine Y_sw ?_
  refine Y_callVi (w0 := wM (Z.1, aM, Z.2.2)) (x := y) (As := [.int (xs (i + 1)), .int (xs (i + 2)), .int (xs (i + 3))]) C2 (c_X6_leaps l0 (Z.1, aM, Z.2.2) y A hM hk (xs (i + 1)) (xs (i + 2)) (xs (i + 3))) cw_RL_98 wd_27_12 wd_27_13 (q0 := 0) (ci := 6) (N := 33) rfl rfl rfl rfl (Nat.le_of_ble_eq_true rfl) rfl rfl (Nat.le_of_ble_eq_true rfl) (Nat.le_of_ble_eq_true rfl) (Nat.le_of_ble_eq_true rfl) (Nat.le_of_ble_eq_true rfl) dL_law_854 (fun r2 y1 hp => ?_)
  obtain ⟨hr2, hM1⟩ := hp
  refine Y_sw ?_
  exact Y_icmp_eq (tgt := 1418) C dL_law_857 (by decide) (fun _ => kk x1 y1 _ hA1 hM1 hk) (fun h => absurd (hr1.trans hr2.symm) h)
set_option maxRecDepth 20000 in
theorem lc_elect (C : CY l0 Z Γ cL_law RL room_1 4) (X : XY Γ b Ln xs) (hLn : Ln ≤ 448) {i : Nat} (hi : i + 7 ≤ Ln) {x : St} {y : Mt} {A : AB} (hA : AbsC x A) (hM : AbsM y A) (hk : AOK A) (kk : ∀ (x1 : St) (y1 : Mt) (A1 : AB), AbsC x1 A1 → AbsM y1 A1 → AOK A1 → YJ Γ (wM (Z.1, aM, Z.2.2) y1 ++ wC Z x1) 600000 7302250 1418 [some (.ref b), some (.ref (Z.2.1 0)), some (.ref (aM 0)), some (.int (nI i))] []) : YJ Γ (wM (Z.1, aM, Z.2.2) y ++ wC Z x) 600000 7302250 862 [some (.ref b), some (.ref (Z.2.1 0)), some (.ref (aM 0)), some (.int (nI i))] [] := by
  have C2 : CY l0 (Z.1, aM, Z.2.2) Γ cL_law RL room_1 4 := C
  refine Y_aload_n C dL_law_862 rfl rfl ?_
  refine Y_arg C X hLn (i := i) (j := 1) (by omega) rfl rfl (by decide) dL_law_863 dL_law_864 dL_law_865 dL_law_866 dL_law_867 ?_
  refine Y_arg C X hLn (i := i) (j := 2) (by omega) rfl rfl (by decide) dL_law_868 dL_law_869 dL_law_870 dL_law_871 dL_law_872 ?_
  refine Y_arg C X hLn (i := i) (j := 3) (by omega) rfl rfl (by decide) dL_law_873 dL_law_874 dL_law_875 dL_law_876 dL_law_877 ?_
  refine Y_callVi (w0 := wC Z) (x := x) (As := [.int (xs (i + 1)), .int (xs (i + 2)), .int (xs (i + 3))]) C (c_X5_elect l0 Z x A hA hk (xs (i + 1)) (xs (i + 2)) (xs (i + 3))) cw_RL_99 wd_28_4 wd_28_5 (q0 := 0) (ci := 5) (N := 8) rfl rfl rfl rfl (Nat.le_of_ble_eq_true rfl) rfl rfl (Nat.le_of_ble_eq_true rfl) (Nat.le_of_ble_eq_true rfl) (Nat.le_of_ble_eq_true rfl) (Nat.le_of_ble_eq_true rfl) dL_law_878 (fun r1 x1 hp => ?_)
  obtain ⟨hr1, hA1⟩ := hp
  refine Y_aload_n C dL_law_881 rfl rfl ?_
  refine Y_arg C X hLn (i := i) (j := 1) (by omega) rfl rfl (by decide) dL_law_882 dL_law_883 dL_law_884 dL_law_885 dL_law_886 ?_
  refine Y_arg C X hLn (i := i) (j := 2) (by omega) rfl rfl (by decide) dL_law_887 dL_law_888 dL_law_889 dL_law_890 dL_law_891 ?_
  refine Y_arg C X hLn (i := i) (j := 3) (by omega) rfl rfl (by decide) dL_law_892 dL_law_893 dL_law_894 dL_law_895 dL_law_896 ?_
  refine Y_sw ?_
  refine Y_callVi (w0 := wM (Z.1, aM, Z.2.2)) (x := y) (As := [.int (xs (i + 1)), .int (xs (i + 2)), .int (xs (i + 3))]) C2 (c_X6_elect l0 (Z.1, aM, Z.2.2) y A hM hk (xs (i + 1)) (xs (i + 2)) (xs (i + 3))) cw_RL_102 wd_28_13 wd_28_14 (q0 := 0) (ci := 6) (N := 33) rfl rfl rfl rfl (Nat.le_of_ble_eq_true rfl) rfl rfl (Nat.le_of_ble_eq_true rfl) (Nat.le_of_ble_eq_true rfl) (Nat.le_of_ble_eq_true rfl) (Nat.le_of_ble_eq_true rfl) dL_law_897 (fun r2 y1 hp => ?_)
  obtain ⟨hr2, hM1⟩ := hp
  refine Y_sw ?_
  exact Y_icmp_eq (tgt := 1418) C dL_law_900 (by decide) (fun _ => kk x1 y1 _ hA1 hM1 hk) (fun h => absurd (hr1.trans hr2.symm) h)
set_option maxRecDepth 20000 in
theorem lc_reading (C : CY l0 Z Γ cL_law RL room_1 4) (X : XY Γ b Ln xs) (hLn : Ln ≤ 448) {i : Nat} (hi : i + 7 ≤ Ln) {x : St} {y : Mt} {A : AB} (hA : AbsC x A) (hM : AbsM y A) (hk : AOK A) (kk : ∀ (x1 : St) (y1 : Mt) (A1 : AB), AbsC x1 A1 → AbsM y1 A1 → AOK A1 → YJ Γ (wM (Z.1, aM, Z.2.2) y1 ++ wC Z x1) 600000 7302250 1418 [some (.ref b), some (.ref (Z.2.1 0)), some (.ref (aM 0)), some (.int (nI i))] []) : YJ Γ (wM (Z.1, aM, Z.2.2) y ++ wC Z x) 600000 7302250 905 [some (.ref b), some (.ref (Z.2.1 0)), some (.ref (aM 0)), some (.int (nI i))] [] := by
  have C2 : CY l0 (Z.1, aM, Z.2.2) Γ cL_law RL room_1 4 := C
  refine Y_aload_n C dL_law_905 rfl rfl ?_
  refine Y_arg C X hLn (i := i) (j := 1) (by omega) rfl rfl (by decide) dL_law_906 dL_law_907 dL_law_908 dL_law_909 dL_law_910 ?_
  refine Y_arg C X hLn (i := i) (j := 2) (by omega) rfl rfl (by decide) dL_law_911 dL_law_912 dL_law_913 dL_law_914 dL_law_915 ?_
  refine Y_arg C X hLn (i := i) (j := 3) (by omega) rfl rfl (by decide) dL_law_916 dL_law_917 dL_law_918 dL_law_919 dL_law_920 ?_
  refine Y_callVi (w0 := wC Z) (x := x) (As := [.int (xs (i + 1)), .int (xs (i + 2)), .int (xs (i + 3))]) C (c_X5_reading l0 Z x A hA hk (xs (i + 1)) (xs (i + 2)) (xs (i + 3))) cw_RL_103 wd_29_1 wd_29_2 (q0 := 0) (ci := 5) (N := 8) rfl rfl rfl rfl (Nat.le_of_ble_eq_true rfl) rfl rfl (Nat.le_of_ble_eq_true rfl) (Nat.le_of_ble_eq_true rfl) (Nat.le_of_ble_eq_true rfl) (Nat.le_of_ble_eq_true rfl) dL_law_921 (fun r1 x1 hp => ?_)
  obtain ⟨hr1, hA1⟩ := hp
  refine Y_aload_n C dL_law_924 rfl rfl ?_
  refine Y_arg C X hLn (i := i) (j := 1) (by omega) rfl rfl (by decide) dL_law_925 dL_law_926 dL_law_927 dL_law_928 dL_law_929 ?_
  refine Y_arg C X hLn (i := i) (j := 2) (by omega) rfl rfl (by decide) dL_law_930 dL_law_931 dL_law_932 dL_law_933 dL_law_934 ?_
  refine Y_arg C X hLn (i := i) (j := 3) (by omega) rfl rfl (by decide) dL_law_935 dL_law_936 dL_law_937 dL_law_938 dL_law_939 ?_
  refine Y_sw ?_
  refine Y_callVi (w0 := wM (Z.1, aM, Z.2.2)) (x := y) (As := [.int (xs (i + 1)), .int (xs (i + 2)), .int (xs (i + 3))]) C2 (c_X6_reading l0 (Z.1, aM, Z.2.2) y A hM hk (xs (i + 1)) (xs (i + 2)) (xs (i + 3))) cw_RL_106 wd_29_10 wd_29_11 (q0 := 0) (ci := 6) (N := 33) rfl rfl rfl rfl (Nat.le_of_ble_eq_true rfl) rfl rfl (Nat.le_of_ble_eq_true rfl) (Nat.le_of_ble_eq_true rfl) (Nat.le_of_ble_eq_true rfl) (Nat.le_of_ble_eq_true rfl) dL_law_940 (fun r2 y1 hp => ?_)
  obtain ⟨hr2, hM1⟩ := hp
  refine Y_sw ?_
  exact Y_icmp_eq (tgt := 1418) C dL_law_943 (by decide) (fun _ => kk x1 y1 _ hA1 hM1 (ok_reading hk (xs (i + 1)) (xs (i + 2)) (xs (i + 3)))) (fun h => absurd (hr1.trans hr2.symm) h)
set_option maxRecDepth 20000 in
theorem lc_back (C : CY l0 Z Γ cL_law RL room_1 4) (X : XY Γ b Ln xs) (hLn : Ln ≤ 448) {i : Nat} (hi : i + 7 ≤ Ln) {x : St} {y : Mt} {A : AB} (hA : AbsC x A) (hM : AbsM y A) (hk : AOK A) (kk : ∀ (x1 : St) (y1 : Mt) (A1 : AB), AbsC x1 A1 → AbsM y1 A1 → AOK A1 → YJ Γ (wM (Z.1, aM, Z.2.2) y1 ++ wC Z x1) 600000 7302250 1418 [some (.ref b), some (.ref (Z.2.1 0)), some (.ref (aM 0)), some (.int (nI i))] []) : YJ Γ (wM (Z.1, aM, Z.2.2) y ++ wC Z x) 600000 7302250 948 [some (.ref b), some (.ref (Z.2.1 0)), some (.ref (aM 0)), some (.int (nI i))] [] := by
  have C2 : CY l0 (Z.1, aM, Z.2.2) Γ cL_law RL room_1 4 := C
  refine Y_aload_n C dL_law_948 rfl rfl ?_
  refine Y_arg C X hLn (i := i) (j := 1) (by omega) rfl rfl (by decide) dL_law_949 dL_law_950 dL_law_951 dL_law_952 dL_law_953 ?_
  refine Y_callVi (w0 := wC Z) (x := x) (As := [.int (xs (i + 1))]) C (c_X5_back l0 Z x A hA hk (xs (i + 1))) cw_RL_107 wd_29_14 wd_29_15 (q0 := 0) (ci := 5) (N := 8) rfl rfl rfl rfl (Nat.le_of_ble_eq_true rfl) rfl rfl (Nat.le_of_ble_eq_true rfl) (Nat.le_of_ble_eq_true rfl) (Nat.le_of_ble_eq_true rfl) (Nat.le_of_ble_eq_true rfl) dL_law_954 (fun r1 x1 hp => ?_)
  obtain ⟨hr1, hA1⟩ := hp
  refine Y_aload_n C dL_law_957 rfl rfl ?_
  refine Y_arg C X hLn (i := i) (j := 1) (by omega) rfl rfl (by decide) dL_law_958 dL_law_959 dL_law_960 dL_law_961 dL_law_962 ?_
  refine Y_sw ?_
  refine Y_callVi (w0 := wM (Z.1, aM, Z.2.2)) (x := y) (As := [.int (xs (i + 1))]) C2 (c_X6_back l0 (Z.1, aM, Z.2.2) y A hM hk (xs (i + 1))) cw_RL_110 wd_29_18 wd_29_19 (q0 := 0) (ci := 6) (N := 33) rfl rfl rfl rfl (Nat.le_of_ble_eq_true rfl) rfl rfl (Nat.le_of_ble_eq_true rfl) (Nat.le_of_ble_eq_true rfl) (Nat.le_of_ble_eq_true rfl) (Nat.le_of_ble_eq_true rfl) dL_law_963 (fun r2 y1 hp => ?_)
  obtain ⟨hr2, hM1⟩ := hp
  refine Y_sw ?_
  exact Y_icmp_eq (tgt := 1418) C dL_law_966 (by decide) (fun _ => kk x1 y1 _ hA1 hM1 (ok_back hk (xs (i + 1)))) (fun h => absurd (hr1.trans hr2.symm) h)
set_option maxRecDepth 20000 in
theorem lc_heights (C : CY l0 Z Γ cL_law RL room_1 4) (X : XY Γ b Ln xs) (hLn : Ln ≤ 448) {i : Nat} (hi : i + 7 ≤ Ln) {x : St} {y : Mt} {A : AB} (hA : AbsC x A) (hM : AbsM y A) (hk : AOK A) (kk : ∀ (x1 : St) (y1 : Mt) (A1 : AB), AbsC x1 A1 → AbsM y1 A1 → AOK A1 → YJ Γ (wM (Z.1, aM, Z.2.2) y1 ++ wC Z x1) 600000 7302250 1418 [some (.ref b), some (.ref (Z.2.1 0)), some (.ref (aM 0)), some (.int (nI i))] []) : YJ Γ (wM (Z.1, aM, Z.2.2) y ++ wC Z x) 600000 7302250 971 [some (.ref b), some (.ref (Z.2.1 0)), some (.ref (aM 0)), some (.int (nI i))] [] := by
  have C2 : CY l0 (Z.1, aM, Z.2.2) Γ cL_law RL room_1 4 := C
  refine Y_aload_n C dL_law_971 rfl rfl ?_
  refine Y_arg C X hLn (i := i) (j := 1) (by omega) rfl rfl (by decide) dL_law_972 dL_law_973 dL_law_974 dL_law_975 dL_law_976 ?_
  refine Y_callVi (w0 := wC Z) (x := x) (As := [.int (xs (i + 1))]) C (c_X5_heights l0 Z x A hA hk (xs (i + 1))) cw_RL_111 wd_29_22 wd_29_23 (q0 := 0) (ci := 5) (N := 8) rfl rfl rfl rfl (Nat.le_of_ble_eq_true rfl) rfl rfl (Nat.le_of_ble_eq_true rfl) (Nat.le_of_ble_eq_true rfl) (Nat.le_of_ble_eq_true rfl) (Nat.le_of_ble_eq_true rfl) dL_law_977 (fun r1 x1 hp => ?_)
  obtain ⟨hr1, hA1⟩ := hp
  refine Y_aload_n C dL_law_980 rfl rfl ?_
  refine Y_arg C X hLn (i := i) (j := 1) (by omega) rfl rfl (by decide) dL_law_981 dL_law_982 dL_law_983 dL_law_984 dL_law_985 ?_
  refine Y_sw ?_
  refine Y_callVi (w0 := wM (Z.1, aM, Z.2.2)) (x := y) (As := [.int (xs (i + 1))]) C2 (c_X6_heights l0 (Z.1, aM, Z.2.2) y A hM hk (xs (i + 1))) cw_RL_114 wd_30_7 wd_30_8 (q0 := 0) (ci := 6) (N := 33) rfl rfl rfl rfl (Nat.le_of_ble_eq_true rfl) rfl rfl (Nat.le_of_ble_eq_true rfl) (Nat.le_of_ble_eq_true rfl) (Nat.le_of_ble_eq_true rfl) (Nat.le_of_ble_eq_true rfl) dL_law_986 (fun r2 y1 hp => ?_)
  obtain ⟨hr2, hM1⟩ := hp
  refine Y_sw ?_
  exact Y_icmp_eq (tgt := 1418) C dL_law_989 (by decide) (fun _ => kk x1 y1 _ hA1 hM1 hk) (fun h => absurd (hr1.trans hr2.symm) h)
set_option maxRecDepth 20000 in
theorem lc_kinds (C : CY l0 Z Γ cL_law RL room_1 4) (X : XY Γ b Ln xs) (hLn : Ln ≤ 448) {i : Nat} (hi : i + 7 ≤ Ln) {x : St} {y : Mt} {A : AB} (hA : AbsC x A) (hM : AbsM y A) (hk : AOK A) (kk : ∀ (x1 : St) (y1 : Mt) (A1 : AB), AbsC x1 A1 → AbsM y1 A1 → AOK A1 → YJ Γ (wM (Z.1, aM, Z.2.2) y1 ++ wC Z x1) 600000 7302250 1418 [some (.ref b), some (.ref (Z.2.1 0)), some (.ref (aM 0)), some (.int (nI i))] []) : YJ Γ (wM (Z.1, aM, Z.2.2) y ++ wC Z x) 600000 7302250 994 [some (.ref b), some (.ref (Z.2.1 0)), some (.ref (aM 0)), some (.int (nI i))] [] := by
  have C2 : CY l0 (Z.1, aM, Z.2.2) Γ cL_law RL room_1 4 := C
  refine Y_aload_n C dL_law_994 rfl rfl ?_
  refine Y_arg C X hLn (i := i) (j := 1) (by omega) rfl rfl (by decide) dL_law_995 dL_law_996 dL_law_997 dL_law_998 dL_law_999 ?_
  refine Y_callVi (w0 := wC Z) (x := x) (As := [.int (xs (i + 1))]) C (c_X5_kinds l0 Z x A hA hk (xs (i + 1))) cw_RL_115 wd_30_15 wd_30_16 (q0 := 0) (ci := 5) (N := 8) rfl rfl rfl rfl (Nat.le_of_ble_eq_true rfl) rfl rfl (Nat.le_of_ble_eq_true rfl) (Nat.le_of_ble_eq_true rfl) (Nat.le_of_ble_eq_true rfl) (Nat.le_of_ble_eq_true rfl) dL_law_1000 (fun r1 x1 hp => ?_)
  obtain ⟨hr1, hA1⟩ := hp
  refine Y_aload_n C dL_law_1003 rfl rfl ?_
  refine Y_arg C X hLn (i := i) (j := 1) (by omega) rfl rfl (by decide) dL_law_1004 dL_law_1005 dL_law_1006 dL_law_1007 dL_law_1008 ?_
  refine Y_sw ?_
  refine Y_callVi (w0 := wM (Z.1, aM, Z.2.2)) (x := y) (As := [.int (xs (i + 1))]) C2 (c_X6_kinds l0 (Z.1, aM, Z.2.2) y A hM hk (xs (i + 1))) cw_RL_118 wd_30_19 wd_30_20 (q0 := 0) (ci := 6) (N := 33) rfl rfl rfl rfl (Nat.le_of_ble_eq_true rfl) rfl rfl (Nat.le_of_ble_eq_true rfl) (Nat.le_of_ble_eq_true rfl) (Nat.le_of_ble_eq_true rfl) (Nat.le_of_ble_eq_true rfl) dL_law_1009 (fun r2 y1 hp => ?_)
  obtain ⟨hr2, hM1⟩ := hp
  refine Y_sw ?_
  exact Y_icmp_eq (tgt := 1418) C dL_law_1012 (by decide) (fun _ => kk x1 y1 _ hA1 hM1 hk) (fun h => absurd (hr1.trans hr2.symm) h)
set_option maxRecDepth 20000 in
theorem lc_streams (C : CY l0 Z Γ cL_law RL room_1 4) (X : XY Γ b Ln xs) (hLn : Ln ≤ 448) {i : Nat} (hi : i + 7 ≤ Ln) {x : St} {y : Mt} {A : AB} (hA : AbsC x A) (hM : AbsM y A) (hk : AOK A) (kk : ∀ (x1 : St) (y1 : Mt) (A1 : AB), AbsC x1 A1 → AbsM y1 A1 → AOK A1 → YJ Γ (wM (Z.1, aM, Z.2.2) y1 ++ wC Z x1) 600000 7302250 1418 [some (.ref b), some (.ref (Z.2.1 0)), some (.ref (aM 0)), some (.int (nI i))] []) : YJ Γ (wM (Z.1, aM, Z.2.2) y ++ wC Z x) 600000 7302250 1017 [some (.ref b), some (.ref (Z.2.1 0)), some (.ref (aM 0)), some (.int (nI i))] [] := by
  have C2 : CY l0 (Z.1, aM, Z.2.2) Γ cL_law RL room_1 4 := C
  refine Y_aload_n C dL_law_1017 rfl rfl ?_
  refine Y_callVi (w0 := wC Z) (x := x) (As := []) C (c_X5_streams l0 Z x A hA hk ) cw_RL_119 wd_30_23 wd_31_0 (q0 := 0) (ci := 5) (N := 8) rfl rfl rfl rfl (Nat.le_of_ble_eq_true rfl) rfl rfl (Nat.le_of_ble_eq_true rfl) (Nat.le_of_ble_eq_true rfl) (Nat.le_of_ble_eq_true rfl) (Nat.le_of_ble_eq_true rfl) dL_law_1018 (fun r1 x1 hp => ?_)
  obtain ⟨hr1, hA1⟩ := hp
  refine Y_aload_n C dL_law_1021 rfl rfl ?_
  refine Y_sw ?_
  refine Y_callVi (w0 := wM (Z.1, aM, Z.2.2)) (x := y) (As := []) C2 (c_X6_streams l0 (Z.1, aM, Z.2.2) y A hM hk ) cw_RL_123 wd_31_3 wd_31_4 (q0 := 0) (ci := 6) (N := 33) rfl rfl rfl rfl (Nat.le_of_ble_eq_true rfl) rfl rfl (Nat.le_of_ble_eq_true rfl) (Nat.le_of_ble_eq_true rfl) (Nat.le_of_ble_eq_true rfl) (Nat.le_of_ble_eq_true rfl) dL_law_1022 (fun r2 y1 hp => ?_)
  obtain ⟨hr2, hM1⟩ := hp
  refine Y_sw ?_
  exact Y_icmp_eq (tgt := 1418) C dL_law_1025 (by decide) (fun _ => kk x1 y1 _ hA1 hM1 hk) (fun h => absurd (hr1.trans hr2.symm) h)
set_option maxRecDepth 20000 in
theorem lc_odds (C : CY l0 Z Γ cL_law RL room_1 4) (X : XY Γ b Ln xs) (hLn : Ln ≤ 448) {i : Nat} (hi : i + 7 ≤ Ln) {x : St} {y : Mt} {A : AB} (hA : AbsC x A) (hM : AbsM y A) (hk : AOK A) (kk : ∀ (x1 : St) (y1 : Mt) (A1 : AB), AbsC x1 A1 → AbsM y1 A1 → AOK A1 → YJ Γ (wM (Z.1, aM, Z.2.2) y1 ++ wC Z x1) 600000 7302250 1418 [some (.ref b), some (.ref (Z.2.1 0)), some (.ref (aM 0)), some (.int (nI i))] []) : YJ Γ (wM (Z.1, aM, Z.2.2) y ++ wC Z x) 600000 7302250 1030 [some (.ref b), some (.ref (Z.2.1 0)), some (.ref (aM 0)), some (.int (nI i))] [] := by
  have C2 : CY l0 (Z.1, aM, Z.2.2) Γ cL_law RL room_1 4 := C
  refine Y_aload_n C dL_law_1030 rfl rfl ?_
  refine Y_arg C X hLn (i := i) (j := 1) (by omega) rfl rfl (by decide) dL_law_1031 dL_law_1032 dL_law_1033 dL_law_1034 dL_law_1035 ?_
  refine Y_arg C X hLn (i := i) (j := 2) (by omega) rfl rfl (by decide) dL_law_1036 dL_law_1037 dL_law_1038 dL_law_1039 dL_law_1040 ?_
  refine Y_arg C X hLn (i := i) (j := 3) (by omega) rfl rfl (by decide) dL_law_1041 dL_law_1042 dL_law_1043 dL_law_1044 dL_law_1045 ?_
  refine Y_callVl (w0 := wC Z) (x := x) (As := [.int (xs (i + 1)), .int (xs (i + 2)), .int (xs (i + 3))]) C (c_X5_odds l0 Z x A hA hk (xs (i + 1)) (xs (i + 2)) (xs (i + 3))) cw_RL_124 wd_31_7 wd_31_8 (q0 := 0) (ci := 5) (N := 8) rfl rfl rfl rfl (Nat.le_of_ble_eq_true rfl) rfl rfl (Nat.le_of_ble_eq_true rfl) (Nat.le_of_ble_eq_true rfl) (Nat.le_of_ble_eq_true rfl) (Nat.le_of_ble_eq_true rfl) dL_law_1046 (fun r1 x1 hp => ?_)
  obtain ⟨hr1, hA1⟩ := hp
  refine Y_aload_n C dL_law_1049 rfl rfl ?_
  refine Y_arg C X hLn (i := i) (j := 1) (by omega) rfl rfl (by decide) dL_law_1050 dL_law_1051 dL_law_1052 dL_law_1053 dL_law_1054 ?_
  refine Y_arg C X hLn (i := i) (j := 2) (by omega) rfl rfl (by decide) dL_law_1055 dL_law_1056 dL_law_1057 dL_law_1058 dL_law_1059 ?_
  refine Y_arg C X hLn (i := i) (j := 3) (by omega) rfl rfl (by decide) dL_law_1060 dL_law_1061 dL_law_1062 dL_law_1063 dL_law_1064 ?_
  refine Y_sw ?_
  refine Y_callVl (w0 := wM (Z.1, aM, Z.2.2)) (x := y) (As := [.int (xs (i + 1)), .int (xs (i + 2)), .int (xs (i + 3))]) C2 (c_X6_odds l0 (Z.1, aM, Z.2.2) y A hM hk (xs (i + 1)) (xs (i + 2)) (xs (i + 3))) cw_RL_128 wd_31_19 wd_31_20 (q0 := 0) (ci := 6) (N := 33) rfl rfl rfl rfl (Nat.le_of_ble_eq_true rfl) rfl rfl (Nat.le_of_ble_eq_true rfl) (Nat.le_of_ble_eq_true rfl) (Nat.le_of_ble_eq_true rfl) (Nat.le_of_ble_eq_true rfl) dL_law_1065 (fun r2 y1 hp => ?_)
  obtain ⟨hr2, hM1⟩ := hp
  refine Y_sw ?_
  refine Y_lcmp C dL_law_1068 ?_
  exact Y_if_eq (tgt := 1418) C dL_law_1069 (by decide) (fun _ => kk x1 y1 _ hA1 hM1 hk) (fun h => absurd ((lg_cmp_eq r1 r2).mpr (hr1.trans hr2.symm)) h)
set_option maxRecDepth 20000 in
theorem lc_sheet (C : CY l0 Z Γ cL_law RL room_1 4) (X : XY Γ b Ln xs) (hLn : Ln ≤ 448) {i : Nat} (hi : i + 7 ≤ Ln) {x : St} {y : Mt} {A : AB} (hA : AbsC x A) (hM : AbsM y A) (hk : AOK A) (kk : ∀ (x1 : St) (y1 : Mt) (A1 : AB), AbsC x1 A1 → AbsM y1 A1 → AOK A1 → YJ Γ (wM (Z.1, aM, Z.2.2) y1 ++ wC Z x1) 600000 7302250 1418 [some (.ref b), some (.ref (Z.2.1 0)), some (.ref (aM 0)), some (.int (nI i))] []) : YJ Γ (wM (Z.1, aM, Z.2.2) y ++ wC Z x) 600000 7302250 1074 [some (.ref b), some (.ref (Z.2.1 0)), some (.ref (aM 0)), some (.int (nI i))] [] := by
  have C2 : CY l0 (Z.1, aM, Z.2.2) Γ cL_law RL room_1 4 := C
  refine Y_aload_n C dL_law_1074 rfl rfl ?_
  refine Y_arg C X hLn (i := i) (j := 1) (by omega) rfl rfl (by decide) dL_law_1075 dL_law_1076 dL_law_1077 dL_law_1078 dL_law_1079 ?_
  refine Y_arg C X hLn (i := i) (j := 2) (by omega) rfl rfl (by decide) dL_law_1080 dL_law_1081 dL_law_1082 dL_law_1083 dL_law_1084 ?_
  refine Y_arg C X hLn (i := i) (j := 3) (by omega) rfl rfl (by decide) dL_law_1085 dL_law_1086 dL_law_1087 dL_law_1088 dL_law_1089 ?_
  refine Y_callVi (w0 := wC Z) (x := x) (As := [.int (xs (i + 1)), .int (xs (i + 2)), .int (xs (i + 3))]) C (c_X5_sheet l0 Z x A hA hk (xs (i + 1)) (xs (i + 2)) (xs (i + 3))) cw_RL_129 wd_32_4 wd_32_5 (q0 := 0) (ci := 5) (N := 8) rfl rfl rfl rfl (Nat.le_of_ble_eq_true rfl) rfl rfl (Nat.le_of_ble_eq_true rfl) (Nat.le_of_ble_eq_true rfl) (Nat.le_of_ble_eq_true rfl) (Nat.le_of_ble_eq_true rfl) dL_law_1090 (fun r1 x1 hp => ?_)
  obtain ⟨hr1, hA1⟩ := hp
  refine Y_aload_n C dL_law_1093 rfl rfl ?_
  refine Y_arg C X hLn (i := i) (j := 1) (by omega) rfl rfl (by decide) dL_law_1094 dL_law_1095 dL_law_1096 dL_law_1097 dL_law_1098 ?_
  refine Y_arg C X hLn (i := i) (j := 2) (by omega) rfl rfl (by decide) dL_law_1099 dL_law_1100 dL_law_1101 dL_law_1102 dL_law_1103 ?_
  refine Y_arg C X hLn (i := i) (j := 3) (by omega) rfl rfl (by decide) dL_law_1104 dL_law_1105 dL_law_1106 dL_law_1107 dL_law_1108 ?_
  refine Y_sw ?_
  refine Y_callVi (w0 := wM (Z.1, aM, Z.2.2)) (x := y) (As := [.int (xs (i + 1)), .int (xs (i + 2)), .int (xs (i + 3))]) C2 (c_X6_sheet l0 (Z.1, aM, Z.2.2) y A hM hk (xs (i + 1)) (xs (i + 2)) (xs (i + 3))) cw_RL_132 wd_32_14 wd_32_15 (q0 := 0) (ci := 6) (N := 33) rfl rfl rfl rfl (Nat.le_of_ble_eq_true rfl) rfl rfl (Nat.le_of_ble_eq_true rfl) (Nat.le_of_ble_eq_true rfl) (Nat.le_of_ble_eq_true rfl) (Nat.le_of_ble_eq_true rfl) dL_law_1109 (fun r2 y1 hp => ?_)
  obtain ⟨hr2, hM1⟩ := hp
  refine Y_sw ?_
  exact Y_icmp_eq (tgt := 1418) C dL_law_1112 (by decide) (fun _ => kk x1 y1 _ hA1 hM1 (ok_sheet hk (xs (i + 1)) (xs (i + 2)) (xs (i + 3)))) (fun h => absurd (hr1.trans hr2.symm) h)
set_option maxRecDepth 20000 in
theorem lc_lose (C : CY l0 Z Γ cL_law RL room_1 4) (X : XY Γ b Ln xs) (hLn : Ln ≤ 448) {i : Nat} (hi : i + 7 ≤ Ln) {x : St} {y : Mt} {A : AB} (hA : AbsC x A) (hM : AbsM y A) (hk : AOK A) (kk : ∀ (x1 : St) (y1 : Mt) (A1 : AB), AbsC x1 A1 → AbsM y1 A1 → AOK A1 → YJ Γ (wM (Z.1, aM, Z.2.2) y1 ++ wC Z x1) 600000 7302250 1418 [some (.ref b), some (.ref (Z.2.1 0)), some (.ref (aM 0)), some (.int (nI i))] []) : YJ Γ (wM (Z.1, aM, Z.2.2) y ++ wC Z x) 600000 7302250 1117 [some (.ref b), some (.ref (Z.2.1 0)), some (.ref (aM 0)), some (.int (nI i))] [] := by
  have C2 : CY l0 (Z.1, aM, Z.2.2) Γ cL_law RL room_1 4 := C
  refine Y_aload_n C dL_law_1117 rfl rfl ?_
  refine Y_arg C X hLn (i := i) (j := 1) (by omega) rfl rfl (by decide) dL_law_1118 dL_law_1119 dL_law_1120 dL_law_1121 dL_law_1122 ?_
  refine Y_callVi (w0 := wC Z) (x := x) (As := [.int (xs (i + 1))]) C (c_X5_lose l0 Z x A hA hk (xs (i + 1))) cw_RL_133 wd_32_18 wd_32_19 (q0 := 0) (ci := 5) (N := 8) rfl rfl rfl rfl (Nat.le_of_ble_eq_true rfl) rfl rfl (Nat.le_of_ble_eq_true rfl) (Nat.le_of_ble_eq_true rfl) (Nat.le_of_ble_eq_true rfl) (Nat.le_of_ble_eq_true rfl) dL_law_1123 (fun r1 x1 hp => ?_)
  obtain ⟨hr1, hA1⟩ := hp
  refine Y_aload_n C dL_law_1126 rfl rfl ?_
  refine Y_arg C X hLn (i := i) (j := 1) (by omega) rfl rfl (by decide) dL_law_1127 dL_law_1128 dL_law_1129 dL_law_1130 dL_law_1131 ?_
  refine Y_sw ?_
  refine Y_callVi (w0 := wM (Z.1, aM, Z.2.2)) (x := y) (As := [.int (xs (i + 1))]) C2 (c_X6_lose l0 (Z.1, aM, Z.2.2) y A hM hk (xs (i + 1))) cw_RL_136 wd_32_22 wd_32_23 (q0 := 0) (ci := 6) (N := 33) rfl rfl rfl rfl (Nat.le_of_ble_eq_true rfl) rfl rfl (Nat.le_of_ble_eq_true rfl) (Nat.le_of_ble_eq_true rfl) (Nat.le_of_ble_eq_true rfl) (Nat.le_of_ble_eq_true rfl) dL_law_1132 (fun r2 y1 hp => ?_)
  obtain ⟨hr2, hM1⟩ := hp
  refine Y_sw ?_
  exact Y_icmp_eq (tgt := 1418) C dL_law_1135 (by decide) (fun _ => kk x1 y1 _ hA1 hM1 (ok_lose hk (xs (i + 1)))) (fun h => absurd (hr1.trans hr2.symm) h)
set_option maxRecDepth 20000 in
theorem lc_put (C : CY l0 Z Γ cL_law RL room_1 4) (X : XY Γ b Ln xs) (hLn : Ln ≤ 448) {i : Nat} (hi : i + 7 ≤ Ln) {x : St} {y : Mt} {A : AB} (hA : AbsC x A) (hM : AbsM y A) (hk : AOK A) (kk : ∀ (x1 : St) (y1 : Mt) (A1 : AB), AbsC x1 A1 → AbsM y1 A1 → AOK A1 → YJ Γ (wM (Z.1, aM, Z.2.2) y1 ++ wC Z x1) 600000 7302250 1418 [some (.ref b), some (.ref (Z.2.1 0)), some (.ref (aM 0)), some (.int (nI i))] []) : YJ Γ (wM (Z.1, aM, Z.2.2) y ++ wC Z x) 600000 7302250 1140 [some (.ref b), some (.ref (Z.2.1 0)), some (.ref (aM 0)), some (.int (nI i))] [] := by
  have C2 : CY l0 (Z.1, aM, Z.2.2) Γ cL_law RL room_1 4 := C
  refine Y_aload_n C dL_law_1140 rfl rfl ?_
  refine Y_arg C X hLn (i := i) (j := 1) (by omega) rfl rfl (by decide) dL_law_1141 dL_law_1142 dL_law_1143 dL_law_1144 dL_law_1145 ?_
  refine Y_arg C X hLn (i := i) (j := 2) (by omega) rfl rfl (by decide) dL_law_1146 dL_law_1147 dL_law_1148 dL_law_1149 dL_law_1150 ?_
  refine Y_arg C X hLn (i := i) (j := 3) (by omega) rfl rfl (by decide) dL_law_1151 dL_law_1152 dL_law_1153 dL_law_1154 dL_law_1155 ?_
  refine Y_callVi (w0 := wC Z) (x := x) (As := [.int (xs (i + 1)), .int (xs (i + 2)), .int (xs (i + 3))]) C (c_X5_put l0 Z x A hA hk (xs (i + 1)) (xs (i + 2)) (xs (i + 3))) cw_RL_137 wd_33_2 wd_33_3 (q0 := 0) (ci := 5) (N := 8) rfl rfl rfl rfl (Nat.le_of_ble_eq_true rfl) rfl rfl (Nat.le_of_ble_eq_true rfl) (Nat.le_of_ble_eq_true rfl) (Nat.le_of_ble_eq_true rfl) (Nat.le_of_ble_eq_true rfl) dL_law_1156 (fun r1 x1 hp => ?_)
  obtain ⟨hr1, hA1⟩ := hp
  refine Y_aload_n C dL_law_1159 rfl rfl ?_
  refine Y_arg C X hLn (i := i) (j := 1) (by omega) rfl rfl (by decide) dL_law_1160 dL_law_1161 dL_law_1162 dL_law_1163 dL_law_1164 ?_
  refine Y_arg C X hLn (i := i) (j := 2) (by omega) rfl rfl (by decide) dL_law_1165 dL_law_1166 dL_law_1167 dL_law_1168 dL_law_1169 ?_
  refine Y_arg C X hLn (i := i) (j := 3) (by omega) rfl rfl (by decide) dL_law_1170 dL_law_1171 dL_law_1172 dL_law_1173 dL_law_1174 ?_
  refine Y_sw ?_
  refine Y_callVi (w0 := wM (Z.1, aM, Z.2.2)) (x := y) (As := [.int (xs (i + 1)), .int (xs (i + 2)), .int (xs (i + 3))]) C2 (c_X6_put l0 (Z.1, aM, Z.2.2) y A hM hk (xs (i + 1)) (xs (i + 2)) (xs (i + 3))) cw_RL_140 wd_33_10 wd_33_11 (q0 := 0) (ci := 6) (N := 33) rfl rfl rfl rfl (Nat.le_of_ble_eq_true rfl) rfl rfl (Nat.le_of_ble_eq_true rfl) (Nat.le_of_ble_eq_true rfl) (Nat.le_of_ble_eq_true rfl) (Nat.le_of_ble_eq_true rfl) dL_law_1175 (fun r2 y1 hp => ?_)
  obtain ⟨hr2, hM1⟩ := hp
  refine Y_sw ?_
  exact Y_icmp_eq (tgt := 1418) C dL_law_1178 (by decide) (fun _ => kk x1 y1 _ hA1 hM1 (ok_put hk (xs (i + 1)) (xs (i + 2)) (xs (i + 3)))) (fun h => absurd (hr1.trans hr2.symm) h)
set_option maxRecDepth 20000 in
theorem lc_cell (C : CY l0 Z Γ cL_law RL room_1 4) (X : XY Γ b Ln xs) (hLn : Ln ≤ 448) {i : Nat} (hi : i + 7 ≤ Ln) {x : St} {y : Mt} {A : AB} (hA : AbsC x A) (hM : AbsM y A) (hk : AOK A) (kk : ∀ (x1 : St) (y1 : Mt) (A1 : AB), AbsC x1 A1 → AbsM y1 A1 → AOK A1 → YJ Γ (wM (Z.1, aM, Z.2.2) y1 ++ wC Z x1) 600000 7302250 1418 [some (.ref b), some (.ref (Z.2.1 0)), some (.ref (aM 0)), some (.int (nI i))] []) : YJ Γ (wM (Z.1, aM, Z.2.2) y ++ wC Z x) 600000 7302250 1183 [some (.ref b), some (.ref (Z.2.1 0)), some (.ref (aM 0)), some (.int (nI i))] [] := by
  have C2 : CY l0 (Z.1, aM, Z.2.2) Γ cL_law RL room_1 4 := C
  refine Y_aload_n C dL_law_1183 rfl rfl ?_
  refine Y_arg C X hLn (i := i) (j := 1) (by omega) rfl rfl (by decide) dL_law_1184 dL_law_1185 dL_law_1186 dL_law_1187 dL_law_1188 ?_
  refine Y_arg C X hLn (i := i) (j := 2) (by omega) rfl rfl (by decide) dL_law_1189 dL_law_1190 dL_law_1191 dL_law_1192 dL_law_1193 ?_
  refine Y_arg C X hLn (i := i) (j := 3) (by omega) rfl rfl (by decide) dL_law_1194 dL_law_1195 dL_law_1196 dL_law_1197 dL_law_1198 ?_
  refine Y_callVl (w0 := wC Z) (x := x) (As := [.int (xs (i + 1)), .int (xs (i + 2)), .int (xs (i + 3))]) C (c_X5_cell l0 Z x A hA hk (xs (i + 1)) (xs (i + 2)) (xs (i + 3))) cw_RL_141 wd_33_14 wd_33_15 (q0 := 0) (ci := 5) (N := 8) rfl rfl rfl rfl (Nat.le_of_ble_eq_true rfl) rfl rfl (Nat.le_of_ble_eq_true rfl) (Nat.le_of_ble_eq_true rfl) (Nat.le_of_ble_eq_true rfl) (Nat.le_of_ble_eq_true rfl) dL_law_1199 (fun r1 x1 hp => ?_)
  obtain ⟨hr1, hA1⟩ := hp
  refine Y_aload_n C dL_law_1202 rfl rfl ?_
  refine Y_arg C X hLn (i := i) (j := 1) (by omega) rfl rfl (by decide) dL_law_1203 dL_law_1204 dL_law_1205 dL_law_1206 dL_law_1207 ?_
  refine Y_arg C X hLn (i := i) (j := 2) (by omega) rfl rfl (by decide) dL_law_1208 dL_law_1209 dL_law_1210 dL_law_1211 dL_law_1212 ?_
  refine Y_arg C X hLn (i := i) (j := 3) (by omega) rfl rfl (by decide) dL_law_1213 dL_law_1214 dL_law_1215 dL_law_1216 dL_law_1217 ?_
  refine Y_sw ?_
  refine Y_callVl (w0 := wM (Z.1, aM, Z.2.2)) (x := y) (As := [.int (xs (i + 1)), .int (xs (i + 2)), .int (xs (i + 3))]) C2 (c_X6_cell l0 (Z.1, aM, Z.2.2) y A hM hk (xs (i + 1)) (xs (i + 2)) (xs (i + 3))) cw_RL_144 wd_33_18 wd_33_19 (q0 := 0) (ci := 6) (N := 33) rfl rfl rfl rfl (Nat.le_of_ble_eq_true rfl) rfl rfl (Nat.le_of_ble_eq_true rfl) (Nat.le_of_ble_eq_true rfl) (Nat.le_of_ble_eq_true rfl) (Nat.le_of_ble_eq_true rfl) dL_law_1218 (fun r2 y1 hp => ?_)
  obtain ⟨hr2, hM1⟩ := hp
  refine Y_sw ?_
  refine Y_lcmp C dL_law_1221 ?_
  exact Y_if_eq (tgt := 1418) C dL_law_1222 (by decide) (fun _ => kk x1 y1 _ hA1 hM1 (ok_cell hk (xs (i + 1)) (xs (i + 2)) (xs (i + 3)))) (fun h => absurd ((lg_cmp_eq r1 r2).mpr (hr1.trans hr2.symm)) h)
set_option maxRecDepth 20000 in
theorem lc_copy (C : CY l0 Z Γ cL_law RL room_1 4) (X : XY Γ b Ln xs) (hLn : Ln ≤ 448) {i : Nat} (hi : i + 7 ≤ Ln) {x : St} {y : Mt} {A : AB} (hA : AbsC x A) (hM : AbsM y A) (hk : AOK A) (kk : ∀ (x1 : St) (y1 : Mt) (A1 : AB), AbsC x1 A1 → AbsM y1 A1 → AOK A1 → YJ Γ (wM (Z.1, aM, Z.2.2) y1 ++ wC Z x1) 600000 7302250 1418 [some (.ref b), some (.ref (Z.2.1 0)), some (.ref (aM 0)), some (.int (nI i))] []) : YJ Γ (wM (Z.1, aM, Z.2.2) y ++ wC Z x) 600000 7302250 1227 [some (.ref b), some (.ref (Z.2.1 0)), some (.ref (aM 0)), some (.int (nI i))] [] := by
  have C2 : CY l0 (Z.1, aM, Z.2.2) Γ cL_law RL room_1 4 := C
  refine Y_aload_n C dL_law_1227 rfl rfl ?_
  refine Y_arg C X hLn (i := i) (j := 1) (by omega) rfl rfl (by decide) dL_law_1228 dL_law_1229 dL_law_1230 dL_law_1231 dL_law_1232 ?_
  refine Y_arg C X hLn (i := i) (j := 2) (by omega) rfl rfl (by decide) dL_law_1233 dL_law_1234 dL_law_1235 dL_law_1236 dL_law_1237 ?_
  refine Y_arg C X hLn (i := i) (j := 3) (by omega) rfl rfl (by decide) dL_law_1238 dL_law_1239 dL_law_1240 dL_law_1241 dL_law_1242 ?_
  refine Y_arg C X hLn (i := i) (j := 4) (by omega) rfl rfl (by decide) dL_law_1243 dL_law_1244 dL_law_1245 dL_law_1246 dL_law_1247 ?_
  refine Y_arg C X hLn (i := i) (j := 5) (by omega) rfl rfl (by decide) dL_law_1248 dL_law_1249 dL_law_1250 dL_law_1251 dL_law_1252 ?_
  refine Y_callVi (w0 := wC Z) (x := x) (As := [.int (xs (i + 1)), .int (xs (i + 2)), .int (xs (i + 3)), .int (xs (i + 4)), .int (xs (i + 5))]) C (c_X5_copy l0 Z x A hA hk (xs (i + 1)) (xs (i + 2)) (xs (i + 3)) (xs (i + 4)) (xs (i + 5))) cw_RL_145 wd_34_2 wd_34_3 (q0 := 0) (ci := 5) (N := 8) rfl rfl rfl rfl (Nat.le_of_ble_eq_true rfl) rfl rfl (Nat.le_of_ble_eq_true rfl) (Nat.le_of_ble_eq_true rfl) (Nat.le_of_ble_eq_true rfl) (Nat.le_of_ble_eq_true rfl) dL_law_1253 (fun r1 x1 hp => ?_)
  obtain ⟨hr1, hA1⟩ := hp
  refine Y_aload_n C dL_law_1256 rfl rfl ?_
  refine Y_arg C X hLn (i := i) (j := 1) (by omega) rfl rfl (by decide) dL_law_1257 dL_law_1258 dL_law_1259 dL_law_1260 dL_law_1261 ?_
  refine Y_arg C X hLn (i := i) (j := 2) (by omega) rfl rfl (by decide) dL_law_1262 dL_law_1263 dL_law_1264 dL_law_1265 dL_law_1266 ?_
  refine Y_arg C X hLn (i := i) (j := 3) (by omega) rfl rfl (by decide) dL_law_1267 dL_law_1268 dL_law_1269 dL_law_1270 dL_law_1271 ?_
  refine Y_arg C X hLn (i := i) (j := 4) (by omega) rfl rfl (by decide) dL_law_1272 dL_law_1273 dL_law_1274 dL_law_1275 dL_law_1276 ?_
  refine Y_arg C X hLn (i := i) (j := 5) (by omega) rfl rfl (by decide) dL_law_1277 dL_law_1278 dL_law_1279 dL_law_1280 dL_law_1281 ?_
  refine Y_sw ?_
  refine Y_callVi (w0 := wM (Z.1, aM, Z.2.2)) (x := y) (As := [.int (xs (i + 1)), .int (xs (i + 2)), .int (xs (i + 3)), .int (xs (i + 4)), .int (xs (i + 5))]) C2 (c_X6_copy l0 (Z.1, aM, Z.2.2) y A hM hk (xs (i + 1)) (xs (i + 2)) (xs (i + 3)) (xs (i + 4)) (xs (i + 5))) cw_RL_148 wd_34_10 wd_34_11 (q0 := 0) (ci := 6) (N := 33) rfl rfl rfl rfl (Nat.le_of_ble_eq_true rfl) rfl rfl (Nat.le_of_ble_eq_true rfl) (Nat.le_of_ble_eq_true rfl) (Nat.le_of_ble_eq_true rfl) (Nat.le_of_ble_eq_true rfl) dL_law_1282 (fun r2 y1 hp => ?_)
  obtain ⟨hr2, hM1⟩ := hp
  refine Y_sw ?_
  exact Y_icmp_eq (tgt := 1418) C dL_law_1285 (by decide) (fun _ => kk x1 y1 _ hA1 hM1 (ok_copy hk (xs (i + 1)) (xs (i + 2)) (xs (i + 3)) (xs (i + 4)) (xs (i + 5)))) (fun h => absurd (hr1.trans hr2.symm) h)
set_option maxRecDepth 20000 in
theorem lc_tell (C : CY l0 Z Γ cL_law RL room_1 4) (X : XY Γ b Ln xs) (hLn : Ln ≤ 448) {i : Nat} (hi : i + 7 ≤ Ln) {x : St} {y : Mt} {A : AB} (hA : AbsC x A) (hM : AbsM y A) (hk : AOK A) (kk : ∀ (x1 : St) (y1 : Mt) (A1 : AB), AbsC x1 A1 → AbsM y1 A1 → AOK A1 → YJ Γ (wM (Z.1, aM, Z.2.2) y1 ++ wC Z x1) 600000 7302250 1418 [some (.ref b), some (.ref (Z.2.1 0)), some (.ref (aM 0)), some (.int (nI i))] []) : YJ Γ (wM (Z.1, aM, Z.2.2) y ++ wC Z x) 600000 7302250 1290 [some (.ref b), some (.ref (Z.2.1 0)), some (.ref (aM 0)), some (.int (nI i))] [] := by
  have C2 : CY l0 (Z.1, aM, Z.2.2) Γ cL_law RL room_1 4 := C
  refine Y_aload_n C dL_law_1290 rfl rfl ?_
  refine Y_arg C X hLn (i := i) (j := 1) (by omega) rfl rfl (by decide) dL_law_1291 dL_law_1292 dL_law_1293 dL_law_1294 dL_law_1295 ?_
  refine Y_callVi (w0 := wC Z) (x := x) (As := [.int (xs (i + 1))]) C (c_X5_tell l0 Z x A hA hk (xs (i + 1))) cw_RL_149 wd_34_14 wd_34_15 (q0 := 0) (ci := 5) (N := 8) rfl rfl rfl rfl (Nat.le_of_ble_eq_true rfl) rfl rfl (Nat.le_of_ble_eq_true rfl) (Nat.le_of_ble_eq_true rfl) (Nat.le_of_ble_eq_true rfl) (Nat.le_of_ble_eq_true rfl) dL_law_1296 (fun r1 x1 hp => ?_)
  obtain ⟨hr1, hA1⟩ := hp
  refine Y_aload_n C dL_law_1299 rfl rfl ?_
  refine Y_arg C X hLn (i := i) (j := 1) (by omega) rfl rfl (by decide) dL_law_1300 dL_law_1301 dL_law_1302 dL_law_1303 dL_law_1304 ?_
  refine Y_sw ?_
  refine Y_callVi (w0 := wM (Z.1, aM, Z.2.2)) (x := y) (As := [.int (xs (i + 1))]) C2 (c_X6_tell l0 (Z.1, aM, Z.2.2) y A hM hk (xs (i + 1))) cw_RL_152 wd_35_11 wd_35_12 (q0 := 0) (ci := 6) (N := 33) rfl rfl rfl rfl (Nat.le_of_ble_eq_true rfl) rfl rfl (Nat.le_of_ble_eq_true rfl) (Nat.le_of_ble_eq_true rfl) (Nat.le_of_ble_eq_true rfl) (Nat.le_of_ble_eq_true rfl) dL_law_1305 (fun r2 y1 hp => ?_)
  obtain ⟨hr2, hM1⟩ := hp
  refine Y_sw ?_
  exact Y_icmp_eq (tgt := 1418) C dL_law_1308 (by decide) (fun _ => kk x1 y1 _ hA1 hM1 (ok_tell hk (xs (i + 1)))) (fun h => absurd (hr1.trans hr2.symm) h)
set_option maxRecDepth 20000 in
theorem lc_name (C : CY l0 Z Γ cL_law RL room_1 4) (X : XY Γ b Ln xs) (hLn : Ln ≤ 448) {i : Nat} (hi : i + 7 ≤ Ln) {x : St} {y : Mt} {A : AB} (hA : AbsC x A) (hM : AbsM y A) (hk : AOK A) (kk : ∀ (x1 : St) (y1 : Mt) (A1 : AB), AbsC x1 A1 → AbsM y1 A1 → AOK A1 → YJ Γ (wM (Z.1, aM, Z.2.2) y1 ++ wC Z x1) 600000 7302250 1418 [some (.ref b), some (.ref (Z.2.1 0)), some (.ref (aM 0)), some (.int (nI i))] []) : YJ Γ (wM (Z.1, aM, Z.2.2) y ++ wC Z x) 600000 7302250 1313 [some (.ref b), some (.ref (Z.2.1 0)), some (.ref (aM 0)), some (.int (nI i))] [] := by
  have C2 : CY l0 (Z.1, aM, Z.2.2) Γ cL_law RL room_1 4 := C
  refine Y_aload_n C dL_law_1313 rfl rfl ?_
  refine Y_arg C X hLn (i := i) (j := 1) (by omega) rfl rfl (by decide) dL_law_1314 dL_law_1315 dL_law_1316 dL_law_1317 dL_law_1318 ?_
  refine Y_callVi (w0 := wC Z) (x := x) (As := [.int (xs (i + 1))]) C (c_X5_name l0 Z x A hA hk (xs (i + 1))) cw_RL_153 wd_35_20 wd_35_21 (q0 := 0) (ci := 5) (N := 8) rfl rfl rfl rfl (Nat.le_of_ble_eq_true rfl) rfl rfl (Nat.le_of_ble_eq_true rfl) (Nat.le_of_ble_eq_true rfl) (Nat.le_of_ble_eq_true rfl) (Nat.le_of_ble_eq_true rfl) dL_law_1319 (fun r1 x1 hp => ?_)
  obtain ⟨hr1, hA1⟩ := hp
  refine Y_aload_n C dL_law_1322 rfl rfl ?_
  refine Y_arg C X hLn (i := i) (j := 1) (by omega) rfl rfl (by decide) dL_law_1323 dL_law_1324 dL_law_1325 dL_law_1326 dL_law_1327 ?_
  refine Y_sw ?_
  refine Y_callVi (w0 := wM (Z.1, aM, Z.2.2)) (x := y) (As := [.int (xs (i + 1))]) C2 (c_X6_name l0 (Z.1, aM, Z.2.2) y A hM hk (xs (i + 1))) cw_RL_156 wd_36_0 wd_36_1 (q0 := 0) (ci := 6) (N := 33) rfl rfl rfl rfl (Nat.le_of_ble_eq_true rfl) rfl rfl (Nat.le_of_ble_eq_true rfl) (Nat.le_of_ble_eq_true rfl) (Nat.le_of_ble_eq_true rfl) (Nat.le_of_ble_eq_true rfl) dL_law_1328 (fun r2 y1 hp => ?_)
  obtain ⟨hr2, hM1⟩ := hp
  refine Y_sw ?_
  exact Y_icmp_eq (tgt := 1418) C dL_law_1331 (by decide) (fun _ => kk x1 y1 _ hA1 hM1 (ok_name hk (xs (i + 1)))) (fun h => absurd (hr1.trans hr2.symm) h)
set_option maxRecDepth 20000 in
theorem lc_as (C : CY l0 Z Γ cL_law RL room_1 4) (X : XY Γ b Ln xs) (hLn : Ln ≤ 448) {i : Nat} (hi : i + 7 ≤ Ln) {x : St} {y : Mt} {A : AB} (hA : AbsC x A) (hM : AbsM y A) (hk : AOK A) (kk : ∀ (x1 : St) (y1 : Mt) (A1 : AB), AbsC x1 A1 → AbsM y1 A1 → AOK A1 → YJ Γ (wM (Z.1, aM, Z.2.2) y1 ++ wC Z x1) 600000 7302250 1418 [some (.ref b), some (.ref (Z.2.1 0)), some (.ref (aM 0)), some (.int (nI i))] []) : YJ Γ (wM (Z.1, aM, Z.2.2) y ++ wC Z x) 600000 7302250 1336 [some (.ref b), some (.ref (Z.2.1 0)), some (.ref (aM 0)), some (.int (nI i))] [] := by
  have C2 : CY l0 (Z.1, aM, Z.2.2) Γ cL_law RL room_1 4 := C
  refine Y_aload_n C dL_law_1336 rfl rfl ?_
  refine Y_arg C X hLn (i := i) (j := 1) (by omega) rfl rfl (by decide) dL_law_1337 dL_law_1338 dL_law_1339 dL_law_1340 dL_law_1341 ?_
  refine Y_arg C X hLn (i := i) (j := 2) (by omega) rfl rfl (by decide) dL_law_1342 dL_law_1343 dL_law_1344 dL_law_1345 dL_law_1346 ?_
  refine Y_callVi (w0 := wC Z) (x := x) (As := [.int (xs (i + 1)), .int (xs (i + 2))]) C (c_X5_as l0 Z x A hA hk (xs (i + 1)) (xs (i + 2))) cw_RL_157 wd_36_4 wd_36_5 (q0 := 0) (ci := 5) (N := 8) rfl rfl rfl rfl (Nat.le_of_ble_eq_true rfl) rfl rfl (Nat.le_of_ble_eq_true rfl) (Nat.le_of_ble_eq_true rfl) (Nat.le_of_ble_eq_true rfl) (Nat.le_of_ble_eq_true rfl) dL_law_1347 (fun r1 x1 hp => ?_)
  obtain ⟨hr1, hA1⟩ := hp
  refine Y_aload_n C dL_law_1350 rfl rfl ?_
  refine Y_arg C X hLn (i := i) (j := 1) (by omega) rfl rfl (by decide) dL_law_1351 dL_law_1352 dL_law_1353 dL_law_1354 dL_law_1355 ?_
  refine Y_arg C X hLn (i := i) (j := 2) (by omega) rfl rfl (by decide) dL_law_1356 dL_law_1357 dL_law_1358 dL_law_1359 dL_law_1360 ?_
  refine Y_sw ?_
  refine Y_callVi (w0 := wM (Z.1, aM, Z.2.2)) (x := y) (As := [.int (xs (i + 1)), .int (xs (i + 2))]) C2 (c_X6_as l0 (Z.1, aM, Z.2.2) y A hM hk (xs (i + 1)) (xs (i + 2))) cw_RL_160 wd_36_8 wd_36_9 (q0 := 0) (ci := 6) (N := 33) rfl rfl rfl rfl (Nat.le_of_ble_eq_true rfl) rfl rfl (Nat.le_of_ble_eq_true rfl) (Nat.le_of_ble_eq_true rfl) (Nat.le_of_ble_eq_true rfl) (Nat.le_of_ble_eq_true rfl) dL_law_1361 (fun r2 y1 hp => ?_)
  obtain ⟨hr2, hM1⟩ := hp
  refine Y_sw ?_
  exact Y_icmp_eq (tgt := 1418) C dL_law_1364 (by decide) (fun _ => kk x1 y1 _ hA1 hM1 (ok_as hk (xs (i + 1)) (xs (i + 2)))) (fun h => absurd (hr1.trans hr2.symm) h)
set_option maxRecDepth 20000 in
theorem lc_trace (C : CY l0 Z Γ cL_law RL room_1 4) (X : XY Γ b Ln xs) (hLn : Ln ≤ 448) {i : Nat} (hi : i + 7 ≤ Ln) {x : St} {y : Mt} {A : AB} (hA : AbsC x A) (hM : AbsM y A) (hk : AOK A) (kk : ∀ (x1 : St) (y1 : Mt) (A1 : AB), AbsC x1 A1 → AbsM y1 A1 → AOK A1 → YJ Γ (wM (Z.1, aM, Z.2.2) y1 ++ wC Z x1) 600000 7302250 1418 [some (.ref b), some (.ref (Z.2.1 0)), some (.ref (aM 0)), some (.int (nI i))] []) : YJ Γ (wM (Z.1, aM, Z.2.2) y ++ wC Z x) 600000 7302250 1369 [some (.ref b), some (.ref (Z.2.1 0)), some (.ref (aM 0)), some (.int (nI i))] [] := by
  have C2 : CY l0 (Z.1, aM, Z.2.2) Γ cL_law RL room_1 4 := C
  refine Y_aload_n C dL_law_1369 rfl rfl ?_
  refine Y_callVi (w0 := wC Z) (x := x) (As := []) C (c_X5_trace l0 Z x A hA hk ) cw_RL_161 wd_36_12 wd_36_13 (q0 := 0) (ci := 5) (N := 8) rfl rfl rfl rfl (Nat.le_of_ble_eq_true rfl) rfl rfl (Nat.le_of_ble_eq_true rfl) (Nat.le_of_ble_eq_true rfl) (Nat.le_of_ble_eq_true rfl) (Nat.le_of_ble_eq_true rfl) dL_law_1370 (fun r1 x1 hp => ?_)
  obtain ⟨hr1, hA1⟩ := hp
  refine Y_aload_n C dL_law_1373 rfl rfl ?_
  refine Y_sw ?_
  refine Y_callVi (w0 := wM (Z.1, aM, Z.2.2)) (x := y) (As := []) C2 (c_X6_trace l0 (Z.1, aM, Z.2.2) y A hM hk ) cw_RL_164 wd_36_16 wd_36_17 (q0 := 0) (ci := 6) (N := 33) rfl rfl rfl rfl (Nat.le_of_ble_eq_true rfl) rfl rfl (Nat.le_of_ble_eq_true rfl) (Nat.le_of_ble_eq_true rfl) (Nat.le_of_ble_eq_true rfl) (Nat.le_of_ble_eq_true rfl) dL_law_1374 (fun r2 y1 hp => ?_)
  obtain ⟨hr2, hM1⟩ := hp
  refine Y_sw ?_
  exact Y_icmp_eq (tgt := 1418) C dL_law_1377 (by decide) (fun _ => kk x1 y1 _ hA1 hM1 hk) (fun h => absurd (hr1.trans hr2.symm) h)
set_option maxRecDepth 20000 in
theorem lc_fault (C : CY l0 Z Γ cL_law RL room_1 4) (X : XY Γ b Ln xs) (hLn : Ln ≤ 448) {i : Nat} (hi : i + 7 ≤ Ln) {x : St} {y : Mt} {A : AB} (hA : AbsC x A) (hM : AbsM y A) (hk : AOK A) (kk : ∀ (x1 : St) (y1 : Mt) (A1 : AB), AbsC x1 A1 → AbsM y1 A1 → AOK A1 → YJ Γ (wM (Z.1, aM, Z.2.2) y1 ++ wC Z x1) 600000 7302250 1418 [some (.ref b), some (.ref (Z.2.1 0)), some (.ref (aM 0)), some (.int (nI i))] []) : YJ Γ (wM (Z.1, aM, Z.2.2) y ++ wC Z x) 600000 7302250 1382 [some (.ref b), some (.ref (Z.2.1 0)), some (.ref (aM 0)), some (.int (nI i))] [] := by
  have C2 : CY l0 (Z.1, aM, Z.2.2) Γ cL_law RL room_1 4 := C
  refine Y_aload_n C dL_law_1382 rfl rfl ?_
  refine Y_callVi (w0 := wC Z) (x := x) (As := []) C (c_X5_fault l0 Z x A hA hk ) cw_RL_165 wd_36_20 wd_36_21 (q0 := 0) (ci := 5) (N := 8) rfl rfl rfl rfl (Nat.le_of_ble_eq_true rfl) rfl rfl (Nat.le_of_ble_eq_true rfl) (Nat.le_of_ble_eq_true rfl) (Nat.le_of_ble_eq_true rfl) (Nat.le_of_ble_eq_true rfl) dL_law_1383 (fun r1 x1 hp => ?_)
  obtain ⟨hr1, hA1⟩ := hp
  refine Y_aload_n C dL_law_1386 rfl rfl ?_
  refine Y_sw ?_
  refine Y_callVi (w0 := wM (Z.1, aM, Z.2.2)) (x := y) (As := []) C2 (c_X6_fault l0 (Z.1, aM, Z.2.2) y A hM hk ) cw_RL_168 wd_37_0 wd_37_1 (q0 := 0) (ci := 6) (N := 33) rfl rfl rfl rfl (Nat.le_of_ble_eq_true rfl) rfl rfl (Nat.le_of_ble_eq_true rfl) (Nat.le_of_ble_eq_true rfl) (Nat.le_of_ble_eq_true rfl) (Nat.le_of_ble_eq_true rfl) dL_law_1387 (fun r2 y1 hp => ?_)
  obtain ⟨hr2, hM1⟩ := hp
  refine Y_sw ?_
  exact Y_icmp_eq (tgt := 1418) C dL_law_1390 (by decide) (fun _ => kk x1 y1 _ hA1 hM1 hk) (fun h => absurd (hr1.trans hr2.symm) h)
set_option maxRecDepth 20000 in
theorem lc_many (C : CY l0 Z Γ cL_law RL room_1 4) (X : XY Γ b Ln xs) (hLn : Ln ≤ 448) {i : Nat} (hi : i + 7 ≤ Ln) {x : St} {y : Mt} {A : AB} (hA : AbsC x A) (hM : AbsM y A) (hk : AOK A) (kk : ∀ (x1 : St) (y1 : Mt) (A1 : AB), AbsC x1 A1 → AbsM y1 A1 → AOK A1 → YJ Γ (wM (Z.1, aM, Z.2.2) y1 ++ wC Z x1) 600000 7302250 1418 [some (.ref b), some (.ref (Z.2.1 0)), some (.ref (aM 0)), some (.int (nI i))] []) : YJ Γ (wM (Z.1, aM, Z.2.2) y ++ wC Z x) 600000 7302250 1395 [some (.ref b), some (.ref (Z.2.1 0)), some (.ref (aM 0)), some (.int (nI i))] [] := by
  have C2 : CY l0 (Z.1, aM, Z.2.2) Γ cL_law RL room_1 4 := C
  refine Y_aload_n C dL_law_1395 rfl rfl ?_
  refine Y_arg C X hLn (i := i) (j := 1) (by omega) rfl rfl (by decide) dL_law_1396 dL_law_1397 dL_law_1398 dL_law_1399 dL_law_1400 ?_
  refine Y_callVi (w0 := wC Z) (x := x) (As := [.int (xs (i + 1))]) C (c_X5_many l0 Z x A hA hk (xs (i + 1))) cw_RL_169 wd_37_4 wd_37_5 (q0 := 0) (ci := 5) (N := 8) rfl rfl rfl rfl (Nat.le_of_ble_eq_true rfl) rfl rfl (Nat.le_of_ble_eq_true rfl) (Nat.le_of_ble_eq_true rfl) (Nat.le_of_ble_eq_true rfl) (Nat.le_of_ble_eq_true rfl) dL_law_1401 (fun r1 x1 hp => ?_)
  obtain ⟨hr1, hA1⟩ := hp
  refine Y_aload_n C dL_law_1404 rfl rfl ?_
  refine Y_arg C X hLn (i := i) (j := 1) (by omega) rfl rfl (by decide) dL_law_1405 dL_law_1406 dL_law_1407 dL_law_1408 dL_law_1409 ?_
  refine Y_sw ?_
  refine Y_callVi (w0 := wM (Z.1, aM, Z.2.2)) (x := y) (As := [.int (xs (i + 1))]) C2 (c_X6_many l0 (Z.1, aM, Z.2.2) y A hM hk (xs (i + 1))) cw_RL_172 wd_37_8 wd_37_9 (q0 := 0) (ci := 6) (N := 33) rfl rfl rfl rfl (Nat.le_of_ble_eq_true rfl) rfl rfl (Nat.le_of_ble_eq_true rfl) (Nat.le_of_ble_eq_true rfl) (Nat.le_of_ble_eq_true rfl) (Nat.le_of_ble_eq_true rfl) dL_law_1410 (fun r2 y1 hp => ?_)
  obtain ⟨hr2, hM1⟩ := hp
  refine Y_sw ?_
  exact Y_icmp_eq (tgt := 1418) C dL_law_1413 (by decide) (fun _ => kk x1 y1 _ hA1 hM1 hk) (fun h => absurd (hr1.trans hr2.symm) h)
end LC
