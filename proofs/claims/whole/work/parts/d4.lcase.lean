-- the law: its cases
section LAWC
variable {X : XT} {G : GT} {v : VT} {i : Int} {Ln : Nat} {sc : Nat → Int32}
set_option maxHeartbeats 2000000 in
theorem lc_0 (C : Cx X G RL cL_law) (hw : LW X G Ln sc) (hI : INV v) (hi : 0 ≤ i ∧ i + 5 ≤ (Ln : Int)) (kk : ∀ u, INV u → E X G 137 3791 1000 u 1508 [some (vr 0), some (vr 1), some (vr 119), some (vi i)] []) : E X G 137 3791 1000 v 204 [some (vr 0), some (vr 1), some (vr 119), some (vi i)] [] := by
  have h25 := hw.2.2.2.1
  obtain ⟨P8, hM8, hk8⟩ := as_feed (G := G) hI (jlor (jlshl (scI sc (i + 1)) 32) (jland (scI sc (i + 2)) 4294967295))
  refine E.aload_n C dL_law_204 rfl rfl ?_
  refine E.aload_n C dL_law_205 rfl rfl ?_
  refine E.iload_n C dL_law_206 rfl rfl ?_
  refine E.iconst C dL_law_207 (by decide) ?_
  refine E.iadd C dL_law_208 (by omega) ?_
  refine E.sld C hw dL_law_209 (by omega) ?_
  refine E.i2l C dL_law_210 ?_
  refine E.bipush C dL_law_211 (by decide) ?_
  refine E.lshl C dL_law_213 ?_
  refine E.aload_n C dL_law_214 rfl rfl ?_
  refine E.iload_n C dL_law_215 rfl rfl ?_
  refine E.iconst C dL_law_216 (by decide) ?_
  refine E.iadd C dL_law_217 (by omega) ?_
  refine E.sld C hw dL_law_218 (by omega) ?_
  refine E.i2l C dL_law_219 ?_
  refine E.ldc2 C ct_L_13 (x := 4294967295) (by decide) dL_law_220 ?_
  refine E.land C dL_law_223 ?_
  refine E.lor C dL_law_224 ?_
  refine E.callA (ci := 8) (S := []) (As := [vl (jlor (jlshl (scI sc (i + 1)) 32) (jland (scI sc (i + 2)) 4294967295))]) C hw hM8 yf_X8_feed yv_X8_feed ml_L_15 rfl rfl rfl kd_1 (by decide) ⟨Nat.le_of_ble_eq_true rfl, Nat.le_of_ble_eq_true rfl⟩ ⟨Nat.le_of_ble_eq_true rfl, Nat.le_of_ble_eq_true rfl⟩ (Nat.le_of_ble_eq_true rfl) dL_law_225 rfl (fun x w hpx => ?_)
  obtain ⟨P9, hM9, hk9⟩ := hk8 x w hpx
  refine E.aload_n C dL_law_228 rfl rfl ?_
  refine E.aload_n C dL_law_229 rfl rfl ?_
  refine E.iload_n C dL_law_230 rfl rfl ?_
  refine E.iconst C dL_law_231 (by decide) ?_
  refine E.iadd C dL_law_232 (by omega) ?_
  refine E.sld C hw dL_law_233 (by omega) ?_
  refine E.i2l C dL_law_234 ?_
  refine E.bipush C dL_law_235 (by decide) ?_
  refine E.lshl C dL_law_237 ?_
  refine E.aload_n C dL_law_238 rfl rfl ?_
  refine E.iload_n C dL_law_239 rfl rfl ?_
  refine E.iconst C dL_law_240 (by decide) ?_
  refine E.iadd C dL_law_241 (by omega) ?_
  refine E.sld C hw dL_law_242 (by omega) ?_
  refine E.i2l C dL_law_243 ?_
  refine E.ldc2 C ct_L_13 (x := 4294967295) (by decide) dL_law_244 ?_
  refine E.land C dL_law_247 ?_
  refine E.lor C dL_law_248 ?_
  refine E.callA (ci := 9) (S := [vi x]) (As := [vl (jlor (jlshl (scI sc (i + 1)) 32) (jland (scI sc (i + 2)) 4294967295))]) C hw hM9 yf_X9_feed yv_X9_feed ml_L_19 rfl rfl rfl kd_119 (by decide) ⟨Nat.le_of_ble_eq_true rfl, Nat.le_of_ble_eq_true rfl⟩ ⟨Nat.le_of_ble_eq_true rfl, Nat.le_of_ble_eq_true rfl⟩ (Nat.le_of_ble_eq_true rfl) dL_law_249 rfl (fun y u hpy => ?_)
  obtain ⟨rfl, hJ⟩ := hk9 y u hpy
  exact E.icmp_eq C dL_law_252 (tgt := 1508) (by decide) (fun _ => kk _ hJ) (fun h => absurd rfl h)
set_option maxHeartbeats 2000000 in
theorem lc_1 (C : Cx X G RL cL_law) (hw : LW X G Ln sc) (hI : INV v) (hi : 0 ≤ i ∧ i + 5 ≤ (Ln : Int)) (kk : ∀ u, INV u → E X G 137 3791 1000 u 1508 [some (vr 0), some (vr 1), some (vr 119), some (vi i)] []) : E X G 137 3791 1000 v 257 [some (vr 0), some (vr 1), some (vr 119), some (vi i)] [] := by
  have h25 := hw.2.2.2.1
  obtain ⟨P8, hM8, hk8⟩ := as_end (G := G) hI (scI sc (i + 1))
  refine E.aload_n C dL_law_257 rfl rfl ?_
  refine E.aload_n C dL_law_258 rfl rfl ?_
  refine E.iload_n C dL_law_259 rfl rfl ?_
  refine E.iconst C dL_law_260 (by decide) ?_
  refine E.iadd C dL_law_261 (by omega) ?_
  refine E.sld C hw dL_law_262 (by omega) ?_
  refine E.callA (ci := 8) (S := []) (As := [vi (scI sc (i + 1))]) C hw hM8 yf_X8_end yv_X8_end ml_L_20 rfl rfl rfl kd_1 (by decide) ⟨Nat.le_of_ble_eq_true rfl, Nat.le_of_ble_eq_true rfl⟩ ⟨Nat.le_of_ble_eq_true rfl, Nat.le_of_ble_eq_true rfl⟩ (Nat.le_of_ble_eq_true rfl) dL_law_263 rfl (fun x w hpx => ?_)
  obtain ⟨P9, hM9, hk9⟩ := hk8 x w hpx
  refine E.aload_n C dL_law_266 rfl rfl ?_
  refine E.aload_n C dL_law_267 rfl rfl ?_
  refine E.iload_n C dL_law_268 rfl rfl ?_
  refine E.iconst C dL_law_269 (by decide) ?_
  refine E.iadd C dL_law_270 (by omega) ?_
  refine E.sld C hw dL_law_271 (by omega) ?_
  refine E.callA (ci := 9) (S := [vi x]) (As := [vi (scI sc (i + 1))]) C hw hM9 yf_X9_end yv_X9_end ml_L_24 rfl rfl rfl kd_119 (by decide) ⟨Nat.le_of_ble_eq_true rfl, Nat.le_of_ble_eq_true rfl⟩ ⟨Nat.le_of_ble_eq_true rfl, Nat.le_of_ble_eq_true rfl⟩ (Nat.le_of_ble_eq_true rfl) dL_law_272 rfl (fun y u hpy => ?_)
  obtain ⟨rfl, hJ⟩ := hk9 y u hpy
  exact E.icmp_eq C dL_law_275 (tgt := 1508) (by decide) (fun _ => kk _ hJ) (fun h => absurd rfl h)
set_option maxHeartbeats 2000000 in
theorem lc_2 (C : Cx X G RL cL_law) (hw : LW X G Ln sc) (hI : INV v) (hi : 0 ≤ i ∧ i + 5 ≤ (Ln : Int)) (kk : ∀ u, INV u → E X G 137 3791 1000 u 1508 [some (vr 0), some (vr 1), some (vr 119), some (vi i)] []) : E X G 137 3791 1000 v 280 [some (vr 0), some (vr 1), some (vr 119), some (vi i)] [] := by
  have h25 := hw.2.2.2.1
  obtain ⟨P8, hM8, hk8⟩ := as_text (G := G) hI 
  refine E.aload_n C dL_law_280 rfl rfl ?_
  refine E.callA (ci := 8) (S := []) (As := []) C hw hM8 yf_X8_text yv_X8_text ml_L_25 rfl rfl rfl kd_1 (by decide) ⟨Nat.le_of_ble_eq_true rfl, Nat.le_of_ble_eq_true rfl⟩ ⟨Nat.le_of_ble_eq_true rfl, Nat.le_of_ble_eq_true rfl⟩ (Nat.le_of_ble_eq_true rfl) dL_law_281 rfl (fun x w hpx => ?_)
  obtain ⟨P9, hM9, hk9⟩ := hk8 x w hpx
  refine E.aload_n C dL_law_284 rfl rfl ?_
  refine E.callA (ci := 9) (S := [vi x]) (As := []) C hw hM9 yf_X9_text yv_X9_text ml_L_29 rfl rfl rfl kd_119 (by decide) ⟨Nat.le_of_ble_eq_true rfl, Nat.le_of_ble_eq_true rfl⟩ ⟨Nat.le_of_ble_eq_true rfl, Nat.le_of_ble_eq_true rfl⟩ (Nat.le_of_ble_eq_true rfl) dL_law_285 rfl (fun y u hpy => ?_)
  obtain ⟨rfl, hJ⟩ := hk9 y u hpy
  exact E.icmp_eq C dL_law_288 (tgt := 1508) (by decide) (fun _ => kk _ hJ) (fun h => absurd rfl h)
set_option maxHeartbeats 2000000 in
theorem lc_3 (C : Cx X G RL cL_law) (hw : LW X G Ln sc) (hI : INV v) (hi : 0 ≤ i ∧ i + 5 ≤ (Ln : Int)) (kk : ∀ u, INV u → E X G 137 3791 1000 u 1508 [some (vr 0), some (vr 1), some (vr 119), some (vi i)] []) : E X G 137 3791 1000 v 293 [some (vr 0), some (vr 1), some (vr 119), some (vi i)] [] := by
  have h25 := hw.2.2.2.1
  obtain ⟨P8, hM8, hk8⟩ := as_fault (G := G) hI 
  refine E.aload_n C dL_law_293 rfl rfl ?_
  refine E.callA (ci := 8) (S := []) (As := []) C hw hM8 yf_X8_fault yv_X8_fault ml_L_30 rfl rfl rfl kd_1 (by decide) ⟨Nat.le_of_ble_eq_true rfl, Nat.le_of_ble_eq_true rfl⟩ ⟨Nat.le_of_ble_eq_true rfl, Nat.le_of_ble_eq_true rfl⟩ (Nat.le_of_ble_eq_true rfl) dL_law_294 rfl (fun x w hpx => ?_)
  obtain ⟨P9, hM9, hk9⟩ := hk8 x w hpx
  refine E.aload_n C dL_law_297 rfl rfl ?_
  refine E.callA (ci := 9) (S := [vi x]) (As := []) C hw hM9 yf_X9_fault yv_X9_fault ml_L_33 rfl rfl rfl kd_119 (by decide) ⟨Nat.le_of_ble_eq_true rfl, Nat.le_of_ble_eq_true rfl⟩ ⟨Nat.le_of_ble_eq_true rfl, Nat.le_of_ble_eq_true rfl⟩ (Nat.le_of_ble_eq_true rfl) dL_law_298 rfl (fun y u hpy => ?_)
  obtain ⟨rfl, hJ⟩ := hk9 y u hpy
  exact E.icmp_eq C dL_law_301 (tgt := 1508) (by decide) (fun _ => kk _ hJ) (fun h => absurd rfl h)
set_option maxHeartbeats 2000000 in
theorem lc_4 (C : Cx X G RL cL_law) (hw : LW X G Ln sc) (hI : INV v) (hi : 0 ≤ i ∧ i + 5 ≤ (Ln : Int)) (kk : ∀ u, INV u → E X G 137 3791 1000 u 1508 [some (vr 0), some (vr 1), some (vr 119), some (vi i)] []) : E X G 137 3791 1000 v 306 [some (vr 0), some (vr 1), some (vr 119), some (vi i)] [] := by
  have h25 := hw.2.2.2.1
  obtain ⟨P8, hM8, hk8⟩ := as_child (G := G) hI (scI sc (i + 1)) (scI sc (i + 2))
  refine E.aload_n C dL_law_306 rfl rfl ?_
  refine E.aload_n C dL_law_307 rfl rfl ?_
  refine E.iload_n C dL_law_308 rfl rfl ?_
  refine E.iconst C dL_law_309 (by decide) ?_
  refine E.iadd C dL_law_310 (by omega) ?_
  refine E.sld C hw dL_law_311 (by omega) ?_
  refine E.aload_n C dL_law_312 rfl rfl ?_
  refine E.iload_n C dL_law_313 rfl rfl ?_
  refine E.iconst C dL_law_314 (by decide) ?_
  refine E.iadd C dL_law_315 (by omega) ?_
  refine E.sld C hw dL_law_316 (by omega) ?_
  refine E.callA (ci := 8) (S := []) (As := [vi (scI sc (i + 1)), vi (scI sc (i + 2))]) C hw hM8 yf_X8_child yv_X8_child ml_L_34 rfl rfl rfl kd_1 (by decide) ⟨Nat.le_of_ble_eq_true rfl, Nat.le_of_ble_eq_true rfl⟩ ⟨Nat.le_of_ble_eq_true rfl, Nat.le_of_ble_eq_true rfl⟩ (Nat.le_of_ble_eq_true rfl) dL_law_317 rfl (fun x w hpx => ?_)
  obtain ⟨P9, hM9, hk9⟩ := hk8 x w hpx
  refine E.aload_n C dL_law_320 rfl rfl ?_
  refine E.aload_n C dL_law_321 rfl rfl ?_
  refine E.iload_n C dL_law_322 rfl rfl ?_
  refine E.iconst C dL_law_323 (by decide) ?_
  refine E.iadd C dL_law_324 (by omega) ?_
  refine E.sld C hw dL_law_325 (by omega) ?_
  refine E.aload_n C dL_law_326 rfl rfl ?_
  refine E.iload_n C dL_law_327 rfl rfl ?_
  refine E.iconst C dL_law_328 (by decide) ?_
  refine E.iadd C dL_law_329 (by omega) ?_
  refine E.sld C hw dL_law_330 (by omega) ?_
  refine E.callA (ci := 9) (S := [vi x]) (As := [vi (scI sc (i + 1)), vi (scI sc (i + 2))]) C hw hM9 yf_X9_child yv_X9_child ml_L_38 rfl rfl rfl kd_119 (by decide) ⟨Nat.le_of_ble_eq_true rfl, Nat.le_of_ble_eq_true rfl⟩ ⟨Nat.le_of_ble_eq_true rfl, Nat.le_of_ble_eq_true rfl⟩ (Nat.le_of_ble_eq_true rfl) dL_law_331 rfl (fun y u hpy => ?_)
  obtain ⟨rfl, hJ⟩ := hk9 y u hpy
  exact E.icmp_eq C dL_law_334 (tgt := 1508) (by decide) (fun _ => kk _ hJ) (fun h => absurd rfl h)
set_option maxHeartbeats 2000000 in
theorem lc_5 (C : Cx X G RL cL_law) (hw : LW X G Ln sc) (hI : INV v) (hi : 0 ≤ i ∧ i + 5 ≤ (Ln : Int)) (kk : ∀ u, INV u → E X G 137 3791 1000 u 1508 [some (vr 0), some (vr 1), some (vr 119), some (vi i)] []) : E X G 137 3791 1000 v 339 [some (vr 0), some (vr 1), some (vr 119), some (vi i)] [] := by
  have h25 := hw.2.2.2.1
  obtain ⟨P8, hM8, hk8⟩ := as_thing (G := G) hI (scI sc (i + 1)) (scI sc (i + 2))
  refine E.aload_n C dL_law_339 rfl rfl ?_
  refine E.aload_n C dL_law_340 rfl rfl ?_
  refine E.iload_n C dL_law_341 rfl rfl ?_
  refine E.iconst C dL_law_342 (by decide) ?_
  refine E.iadd C dL_law_343 (by omega) ?_
  refine E.sld C hw dL_law_344 (by omega) ?_
  refine E.aload_n C dL_law_345 rfl rfl ?_
  refine E.iload_n C dL_law_346 rfl rfl ?_
  refine E.iconst C dL_law_347 (by decide) ?_
  refine E.iadd C dL_law_348 (by omega) ?_
  refine E.sld C hw dL_law_349 (by omega) ?_
  refine E.callA (ci := 8) (S := []) (As := [vi (scI sc (i + 1)), vi (scI sc (i + 2))]) C hw hM8 yf_X8_thing yv_X8_thing ml_L_39 rfl rfl rfl kd_1 (by decide) ⟨Nat.le_of_ble_eq_true rfl, Nat.le_of_ble_eq_true rfl⟩ ⟨Nat.le_of_ble_eq_true rfl, Nat.le_of_ble_eq_true rfl⟩ (Nat.le_of_ble_eq_true rfl) dL_law_350 rfl (fun x w hpx => ?_)
  obtain ⟨P9, hM9, hk9⟩ := hk8 x w hpx
  refine E.aload_n C dL_law_353 rfl rfl ?_
  refine E.aload_n C dL_law_354 rfl rfl ?_
  refine E.iload_n C dL_law_355 rfl rfl ?_
  refine E.iconst C dL_law_356 (by decide) ?_
  refine E.iadd C dL_law_357 (by omega) ?_
  refine E.sld C hw dL_law_358 (by omega) ?_
  refine E.aload_n C dL_law_359 rfl rfl ?_
  refine E.iload_n C dL_law_360 rfl rfl ?_
  refine E.iconst C dL_law_361 (by decide) ?_
  refine E.iadd C dL_law_362 (by omega) ?_
  refine E.sld C hw dL_law_363 (by omega) ?_
  refine E.callA (ci := 9) (S := [vi x]) (As := [vi (scI sc (i + 1)), vi (scI sc (i + 2))]) C hw hM9 yf_X9_thing yv_X9_thing ml_L_42 rfl rfl rfl kd_119 (by decide) ⟨Nat.le_of_ble_eq_true rfl, Nat.le_of_ble_eq_true rfl⟩ ⟨Nat.le_of_ble_eq_true rfl, Nat.le_of_ble_eq_true rfl⟩ (Nat.le_of_ble_eq_true rfl) dL_law_364 rfl (fun y u hpy => ?_)
  obtain ⟨rfl, hJ⟩ := hk9 y u hpy
  exact E.icmp_eq C dL_law_367 (tgt := 1508) (by decide) (fun _ => kk _ hJ) (fun h => absurd rfl h)
set_option maxHeartbeats 2000000 in
theorem lc_6 (C : Cx X G RL cL_law) (hw : LW X G Ln sc) (hI : INV v) (hi : 0 ≤ i ∧ i + 5 ≤ (Ln : Int)) (kk : ∀ u, INV u → E X G 137 3791 1000 u 1508 [some (vr 0), some (vr 1), some (vr 119), some (vi i)] []) : E X G 137 3791 1000 v 372 [some (vr 0), some (vr 1), some (vr 119), some (vi i)] [] := by
  have h25 := hw.2.2.2.1
  obtain ⟨P8, hM8, hk8⟩ := as_slack (G := G) hI (scI sc (i + 1))
  refine E.aload_n C dL_law_372 rfl rfl ?_
  refine E.aload_n C dL_law_373 rfl rfl ?_
  refine E.iload_n C dL_law_374 rfl rfl ?_
  refine E.iconst C dL_law_375 (by decide) ?_
  refine E.iadd C dL_law_376 (by omega) ?_
  refine E.sld C hw dL_law_377 (by omega) ?_
  refine E.callA (ci := 8) (S := []) (As := [vi (scI sc (i + 1))]) C hw hM8 yf_X8_slack yv_X8_slack ml_L_43 rfl rfl rfl kd_1 (by decide) ⟨Nat.le_of_ble_eq_true rfl, Nat.le_of_ble_eq_true rfl⟩ ⟨Nat.le_of_ble_eq_true rfl, Nat.le_of_ble_eq_true rfl⟩ (Nat.le_of_ble_eq_true rfl) dL_law_378 rfl (fun x w hpx => ?_)
  obtain ⟨P9, hM9, hk9⟩ := hk8 x w hpx
  refine E.aload_n C dL_law_381 rfl rfl ?_
  refine E.aload_n C dL_law_382 rfl rfl ?_
  refine E.iload_n C dL_law_383 rfl rfl ?_
  refine E.iconst C dL_law_384 (by decide) ?_
  refine E.iadd C dL_law_385 (by omega) ?_
  refine E.sld C hw dL_law_386 (by omega) ?_
  refine E.callA (ci := 9) (S := [vi x]) (As := [vi (scI sc (i + 1))]) C hw hM9 yf_X9_slack yv_X9_slack ml_L_46 rfl rfl rfl kd_119 (by decide) ⟨Nat.le_of_ble_eq_true rfl, Nat.le_of_ble_eq_true rfl⟩ ⟨Nat.le_of_ble_eq_true rfl, Nat.le_of_ble_eq_true rfl⟩ (Nat.le_of_ble_eq_true rfl) dL_law_387 rfl (fun y u hpy => ?_)
  obtain ⟨rfl, hJ⟩ := hk9 y u hpy
  exact E.icmp_eq C dL_law_390 (tgt := 1508) (by decide) (fun _ => kk _ hJ) (fun h => absurd rfl h)
set_option maxHeartbeats 2000000 in
theorem lc_7 (C : Cx X G RL cL_law) (hw : LW X G Ln sc) (hI : INV v) (hi : 0 ≤ i ∧ i + 5 ≤ (Ln : Int)) (kk : ∀ u, INV u → E X G 137 3791 1000 u 1508 [some (vr 0), some (vr 1), some (vr 119), some (vi i)] []) : E X G 137 3791 1000 v 395 [some (vr 0), some (vr 1), some (vr 119), some (vi i)] [] := by
  have h25 := hw.2.2.2.1
  obtain ⟨P8, hM8, hk8⟩ := as_like (G := G) hI (scI sc (i + 1)) (scI sc (i + 2)) (scI sc (i + 3))
  refine E.aload_n C dL_law_395 rfl rfl ?_
  refine E.aload_n C dL_law_396 rfl rfl ?_
  refine E.iload_n C dL_law_397 rfl rfl ?_
  refine E.iconst C dL_law_398 (by decide) ?_
  refine E.iadd C dL_law_399 (by omega) ?_
  refine E.sld C hw dL_law_400 (by omega) ?_
  refine E.aload_n C dL_law_401 rfl rfl ?_
  refine E.iload_n C dL_law_402 rfl rfl ?_
  refine E.iconst C dL_law_403 (by decide) ?_
  refine E.iadd C dL_law_404 (by omega) ?_
  refine E.sld C hw dL_law_405 (by omega) ?_
  refine E.aload_n C dL_law_406 rfl rfl ?_
  refine E.iload_n C dL_law_407 rfl rfl ?_
  refine E.iconst C dL_law_408 (by decide) ?_
  refine E.iadd C dL_law_409 (by omega) ?_
  refine E.sld C hw dL_law_410 (by omega) ?_
  refine E.callA (ci := 8) (S := []) (As := [vi (scI sc (i + 1)), vi (scI sc (i + 2)), vi (scI sc (i + 3))]) C hw hM8 yf_X8_like yv_X8_like ml_L_47 rfl rfl rfl kd_1 (by decide) ⟨Nat.le_of_ble_eq_true rfl, Nat.le_of_ble_eq_true rfl⟩ ⟨Nat.le_of_ble_eq_true rfl, Nat.le_of_ble_eq_true rfl⟩ (Nat.le_of_ble_eq_true rfl) dL_law_411 rfl (fun x w hpx => ?_)
  obtain ⟨P9, hM9, hk9⟩ := hk8 x w hpx
  refine E.aload_n C dL_law_414 rfl rfl ?_
  refine E.aload_n C dL_law_415 rfl rfl ?_
  refine E.iload_n C dL_law_416 rfl rfl ?_
  refine E.iconst C dL_law_417 (by decide) ?_
  refine E.iadd C dL_law_418 (by omega) ?_
  refine E.sld C hw dL_law_419 (by omega) ?_
  refine E.aload_n C dL_law_420 rfl rfl ?_
  refine E.iload_n C dL_law_421 rfl rfl ?_
  refine E.iconst C dL_law_422 (by decide) ?_
  refine E.iadd C dL_law_423 (by omega) ?_
  refine E.sld C hw dL_law_424 (by omega) ?_
  refine E.aload_n C dL_law_425 rfl rfl ?_
  refine E.iload_n C dL_law_426 rfl rfl ?_
  refine E.iconst C dL_law_427 (by decide) ?_
  refine E.iadd C dL_law_428 (by omega) ?_
  refine E.sld C hw dL_law_429 (by omega) ?_
  refine E.callA (ci := 9) (S := [vi x]) (As := [vi (scI sc (i + 1)), vi (scI sc (i + 2)), vi (scI sc (i + 3))]) C hw hM9 yf_X9_like yv_X9_like ml_L_51 rfl rfl rfl kd_119 (by decide) ⟨Nat.le_of_ble_eq_true rfl, Nat.le_of_ble_eq_true rfl⟩ ⟨Nat.le_of_ble_eq_true rfl, Nat.le_of_ble_eq_true rfl⟩ (Nat.le_of_ble_eq_true rfl) dL_law_430 rfl (fun y u hpy => ?_)
  obtain ⟨rfl, hJ⟩ := hk9 y u hpy
  exact E.icmp_eq C dL_law_433 (tgt := 1508) (by decide) (fun _ => kk _ hJ) (fun h => absurd rfl h)
set_option maxHeartbeats 2000000 in
theorem lc_8 (C : Cx X G RL cL_law) (hw : LW X G Ln sc) (hI : INV v) (hi : 0 ≤ i ∧ i + 5 ≤ (Ln : Int)) (kk : ∀ u, INV u → E X G 137 3791 1000 u 1508 [some (vr 0), some (vr 1), some (vr 119), some (vi i)] []) : E X G 137 3791 1000 v 438 [some (vr 0), some (vr 1), some (vr 119), some (vi i)] [] := by
  have h25 := hw.2.2.2.1
  obtain ⟨P8, hM8, hk8⟩ := as_fits (G := G) hI (scI sc (i + 1)) (scI sc (i + 2))
  refine E.aload_n C dL_law_438 rfl rfl ?_
  refine E.aload_n C dL_law_439 rfl rfl ?_
  refine E.iload_n C dL_law_440 rfl rfl ?_
  refine E.iconst C dL_law_441 (by decide) ?_
  refine E.iadd C dL_law_442 (by omega) ?_
  refine E.sld C hw dL_law_443 (by omega) ?_
  refine E.aload_n C dL_law_444 rfl rfl ?_
  refine E.iload_n C dL_law_445 rfl rfl ?_
  refine E.iconst C dL_law_446 (by decide) ?_
  refine E.iadd C dL_law_447 (by omega) ?_
  refine E.sld C hw dL_law_448 (by omega) ?_
  refine E.callA (ci := 8) (S := []) (As := [vi (scI sc (i + 1)), vi (scI sc (i + 2))]) C hw hM8 yf_X8_fits yv_X8_fits ml_L_52 rfl rfl rfl kd_1 (by decide) ⟨Nat.le_of_ble_eq_true rfl, Nat.le_of_ble_eq_true rfl⟩ ⟨Nat.le_of_ble_eq_true rfl, Nat.le_of_ble_eq_true rfl⟩ (Nat.le_of_ble_eq_true rfl) dL_law_449 rfl (fun x w hpx => ?_)
  obtain ⟨P9, hM9, hk9⟩ := hk8 x w hpx
  refine E.aload_n C dL_law_452 rfl rfl ?_
  refine E.aload_n C dL_law_453 rfl rfl ?_
  refine E.iload_n C dL_law_454 rfl rfl ?_
  refine E.iconst C dL_law_455 (by decide) ?_
  refine E.iadd C dL_law_456 (by omega) ?_
  refine E.sld C hw dL_law_457 (by omega) ?_
  refine E.aload_n C dL_law_458 rfl rfl ?_
  refine E.iload_n C dL_law_459 rfl rfl ?_
  refine E.iconst C dL_law_460 (by decide) ?_
  refine E.iadd C dL_law_461 (by omega) ?_
  refine E.sld C hw dL_law_462 (by omega) ?_
  refine E.callA (ci := 9) (S := [vi x]) (As := [vi (scI sc (i + 1)), vi (scI sc (i + 2))]) C hw hM9 yf_X9_fits yv_X9_fits ml_L_55 rfl rfl rfl kd_119 (by decide) ⟨Nat.le_of_ble_eq_true rfl, Nat.le_of_ble_eq_true rfl⟩ ⟨Nat.le_of_ble_eq_true rfl, Nat.le_of_ble_eq_true rfl⟩ (Nat.le_of_ble_eq_true rfl) dL_law_463 rfl (fun y u hpy => ?_)
  obtain ⟨rfl, hJ⟩ := hk9 y u hpy
  exact E.icmp_eq C dL_law_466 (tgt := 1508) (by decide) (fun _ => kk _ hJ) (fun h => absurd rfl h)
set_option maxHeartbeats 2000000 in
theorem lc_9 (C : Cx X G RL cL_law) (hw : LW X G Ln sc) (hI : INV v) (hi : 0 ≤ i ∧ i + 5 ≤ (Ln : Int)) (kk : ∀ u, INV u → E X G 137 3791 1000 u 1508 [some (vr 0), some (vr 1), some (vr 119), some (vi i)] []) : E X G 137 3791 1000 v 471 [some (vr 0), some (vr 1), some (vr 119), some (vi i)] [] := by
  have h25 := hw.2.2.2.1
  obtain ⟨P8, hM8, hk8⟩ := as_wear (G := G) hI (scI sc (i + 1)) (scI sc (i + 2))
  refine E.aload_n C dL_law_471 rfl rfl ?_
  refine E.aload_n C dL_law_472 rfl rfl ?_
  refine E.iload_n C dL_law_473 rfl rfl ?_
  refine E.iconst C dL_law_474 (by decide) ?_
  refine E.iadd C dL_law_475 (by omega) ?_
  refine E.sld C hw dL_law_476 (by omega) ?_
  refine E.aload_n C dL_law_477 rfl rfl ?_
  refine E.iload_n C dL_law_478 rfl rfl ?_
  refine E.iconst C dL_law_479 (by decide) ?_
  refine E.iadd C dL_law_480 (by omega) ?_
  refine E.sld C hw dL_law_481 (by omega) ?_
  refine E.callA (ci := 8) (S := []) (As := [vi (scI sc (i + 1)), vi (scI sc (i + 2))]) C hw hM8 yf_X8_wear yv_X8_wear ml_L_56 rfl rfl rfl kd_1 (by decide) ⟨Nat.le_of_ble_eq_true rfl, Nat.le_of_ble_eq_true rfl⟩ ⟨Nat.le_of_ble_eq_true rfl, Nat.le_of_ble_eq_true rfl⟩ (Nat.le_of_ble_eq_true rfl) dL_law_482 rfl (fun x w hpx => ?_)
  obtain ⟨P9, hM9, hk9⟩ := hk8 x w hpx
  refine E.aload_n C dL_law_485 rfl rfl ?_
  refine E.aload_n C dL_law_486 rfl rfl ?_
  refine E.iload_n C dL_law_487 rfl rfl ?_
  refine E.iconst C dL_law_488 (by decide) ?_
  refine E.iadd C dL_law_489 (by omega) ?_
  refine E.sld C hw dL_law_490 (by omega) ?_
  refine E.aload_n C dL_law_491 rfl rfl ?_
  refine E.iload_n C dL_law_492 rfl rfl ?_
  refine E.iconst C dL_law_493 (by decide) ?_
  refine E.iadd C dL_law_494 (by omega) ?_
  refine E.sld C hw dL_law_495 (by omega) ?_
  refine E.callA (ci := 9) (S := [vi x]) (As := [vi (scI sc (i + 1)), vi (scI sc (i + 2))]) C hw hM9 yf_X9_wear yv_X9_wear ml_L_59 rfl rfl rfl kd_119 (by decide) ⟨Nat.le_of_ble_eq_true rfl, Nat.le_of_ble_eq_true rfl⟩ ⟨Nat.le_of_ble_eq_true rfl, Nat.le_of_ble_eq_true rfl⟩ (Nat.le_of_ble_eq_true rfl) dL_law_496 rfl (fun y u hpy => ?_)
  obtain ⟨rfl, hJ⟩ := hk9 y u hpy
  exact E.icmp_eq C dL_law_499 (tgt := 1508) (by decide) (fun _ => kk _ hJ) (fun h => absurd rfl h)
set_option maxHeartbeats 2000000 in
theorem lc_10 (C : Cx X G RL cL_law) (hw : LW X G Ln sc) (hI : INV v) (hi : 0 ≤ i ∧ i + 5 ≤ (Ln : Int)) (kk : ∀ u, INV u → E X G 137 3791 1000 u 1508 [some (vr 0), some (vr 1), some (vr 119), some (vi i)] []) : E X G 137 3791 1000 v 504 [some (vr 0), some (vr 1), some (vr 119), some (vi i)] [] := by
  have h25 := hw.2.2.2.1
  obtain ⟨P8, hM8, hk8⟩ := as_doff (G := G) hI (scI sc (i + 1)) (scI sc (i + 2))
  refine E.aload_n C dL_law_504 rfl rfl ?_
  refine E.aload_n C dL_law_505 rfl rfl ?_
  refine E.iload_n C dL_law_506 rfl rfl ?_
  refine E.iconst C dL_law_507 (by decide) ?_
  refine E.iadd C dL_law_508 (by omega) ?_
  refine E.sld C hw dL_law_509 (by omega) ?_
  refine E.aload_n C dL_law_510 rfl rfl ?_
  refine E.iload_n C dL_law_511 rfl rfl ?_
  refine E.iconst C dL_law_512 (by decide) ?_
  refine E.iadd C dL_law_513 (by omega) ?_
  refine E.sld C hw dL_law_514 (by omega) ?_
  refine E.callA (ci := 8) (S := []) (As := [vi (scI sc (i + 1)), vi (scI sc (i + 2))]) C hw hM8 yf_X8_doff yv_X8_doff ml_L_60 rfl rfl rfl kd_1 (by decide) ⟨Nat.le_of_ble_eq_true rfl, Nat.le_of_ble_eq_true rfl⟩ ⟨Nat.le_of_ble_eq_true rfl, Nat.le_of_ble_eq_true rfl⟩ (Nat.le_of_ble_eq_true rfl) dL_law_515 rfl (fun x w hpx => ?_)
  obtain ⟨P9, hM9, hk9⟩ := hk8 x w hpx
  refine E.aload_n C dL_law_518 rfl rfl ?_
  refine E.aload_n C dL_law_519 rfl rfl ?_
  refine E.iload_n C dL_law_520 rfl rfl ?_
  refine E.iconst C dL_law_521 (by decide) ?_
  refine E.iadd C dL_law_522 (by omega) ?_
  refine E.sld C hw dL_law_523 (by omega) ?_
  refine E.aload_n C dL_law_524 rfl rfl ?_
  refine E.iload_n C dL_law_525 rfl rfl ?_
  refine E.iconst C dL_law_526 (by decide) ?_
  refine E.iadd C dL_law_527 (by omega) ?_
  refine E.sld C hw dL_law_528 (by omega) ?_
  refine E.callA (ci := 9) (S := [vi x]) (As := [vi (scI sc (i + 1)), vi (scI sc (i + 2))]) C hw hM9 yf_X9_doff yv_X9_doff ml_L_63 rfl rfl rfl kd_119 (by decide) ⟨Nat.le_of_ble_eq_true rfl, Nat.le_of_ble_eq_true rfl⟩ ⟨Nat.le_of_ble_eq_true rfl, Nat.le_of_ble_eq_true rfl⟩ (Nat.le_of_ble_eq_true rfl) dL_law_529 rfl (fun y u hpy => ?_)
  obtain ⟨rfl, hJ⟩ := hk9 y u hpy
  exact E.icmp_eq C dL_law_532 (tgt := 1508) (by decide) (fun _ => kk _ hJ) (fun h => absurd rfl h)
set_option maxHeartbeats 2000000 in
theorem lc_11 (C : Cx X G RL cL_law) (hw : LW X G Ln sc) (hI : INV v) (hi : 0 ≤ i ∧ i + 5 ≤ (Ln : Int)) (kk : ∀ u, INV u → E X G 137 3791 1000 u 1508 [some (vr 0), some (vr 1), some (vr 119), some (vi i)] []) : E X G 137 3791 1000 v 537 [some (vr 0), some (vr 1), some (vr 119), some (vi i)] [] := by
  have h25 := hw.2.2.2.1
  obtain ⟨P8, hM8, hk8⟩ := as_cold (G := G) hI (scI sc (i + 1))
  refine E.aload_n C dL_law_537 rfl rfl ?_
  refine E.aload_n C dL_law_538 rfl rfl ?_
  refine E.iload_n C dL_law_539 rfl rfl ?_
  refine E.iconst C dL_law_540 (by decide) ?_
  refine E.iadd C dL_law_541 (by omega) ?_
  refine E.sld C hw dL_law_542 (by omega) ?_
  refine E.callA (ci := 8) (S := []) (As := [vi (scI sc (i + 1))]) C hw hM8 yf_X8_cold yv_X8_cold ml_L_64 rfl rfl rfl kd_1 (by decide) ⟨Nat.le_of_ble_eq_true rfl, Nat.le_of_ble_eq_true rfl⟩ ⟨Nat.le_of_ble_eq_true rfl, Nat.le_of_ble_eq_true rfl⟩ (Nat.le_of_ble_eq_true rfl) dL_law_543 rfl (fun x w hpx => ?_)
  obtain ⟨P9, hM9, hk9⟩ := hk8 x w hpx
  refine E.aload_n C dL_law_546 rfl rfl ?_
  refine E.aload_n C dL_law_547 rfl rfl ?_
  refine E.iload_n C dL_law_548 rfl rfl ?_
  refine E.iconst C dL_law_549 (by decide) ?_
  refine E.iadd C dL_law_550 (by omega) ?_
  refine E.sld C hw dL_law_551 (by omega) ?_
  refine E.callA (ci := 9) (S := [vi x]) (As := [vi (scI sc (i + 1))]) C hw hM9 yf_X9_cold yv_X9_cold ml_L_67 rfl rfl rfl kd_119 (by decide) ⟨Nat.le_of_ble_eq_true rfl, Nat.le_of_ble_eq_true rfl⟩ ⟨Nat.le_of_ble_eq_true rfl, Nat.le_of_ble_eq_true rfl⟩ (Nat.le_of_ble_eq_true rfl) dL_law_552 rfl (fun y u hpy => ?_)
  obtain ⟨rfl, hJ⟩ := hk9 y u hpy
  exact E.icmp_eq C dL_law_555 (tgt := 1508) (by decide) (fun _ => kk _ hJ) (fun h => absurd rfl h)
set_option maxHeartbeats 2000000 in
theorem lc_12 (C : Cx X G RL cL_law) (hw : LW X G Ln sc) (hI : INV v) (hi : 0 ≤ i ∧ i + 5 ≤ (Ln : Int)) (kk : ∀ u, INV u → E X G 137 3791 1000 u 1508 [some (vr 0), some (vr 1), some (vr 119), some (vi i)] []) : E X G 137 3791 1000 v 560 [some (vr 0), some (vr 1), some (vr 119), some (vi i)] [] := by
  have h25 := hw.2.2.2.1
  obtain ⟨P8, hM8, hk8⟩ := as_deal (G := G) hI (scI sc (i + 1)) (scI sc (i + 2))
  refine E.aload_n C dL_law_560 rfl rfl ?_
  refine E.aload_n C dL_law_561 rfl rfl ?_
  refine E.iload_n C dL_law_562 rfl rfl ?_
  refine E.iconst C dL_law_563 (by decide) ?_
  refine E.iadd C dL_law_564 (by omega) ?_
  refine E.sld C hw dL_law_565 (by omega) ?_
  refine E.aload_n C dL_law_566 rfl rfl ?_
  refine E.iload_n C dL_law_567 rfl rfl ?_
  refine E.iconst C dL_law_568 (by decide) ?_
  refine E.iadd C dL_law_569 (by omega) ?_
  refine E.sld C hw dL_law_570 (by omega) ?_
  refine E.callA (ci := 8) (S := []) (As := [vi (scI sc (i + 1)), vi (scI sc (i + 2))]) C hw hM8 yf_X8_deal yv_X8_deal ml_L_68 rfl rfl rfl kd_1 (by decide) ⟨Nat.le_of_ble_eq_true rfl, Nat.le_of_ble_eq_true rfl⟩ ⟨Nat.le_of_ble_eq_true rfl, Nat.le_of_ble_eq_true rfl⟩ (Nat.le_of_ble_eq_true rfl) dL_law_571 rfl (fun x w hpx => ?_)
  obtain ⟨P9, hM9, hk9⟩ := hk8 x w hpx
  refine E.aload_n C dL_law_574 rfl rfl ?_
  refine E.aload_n C dL_law_575 rfl rfl ?_
  refine E.iload_n C dL_law_576 rfl rfl ?_
  refine E.iconst C dL_law_577 (by decide) ?_
  refine E.iadd C dL_law_578 (by omega) ?_
  refine E.sld C hw dL_law_579 (by omega) ?_
  refine E.aload_n C dL_law_580 rfl rfl ?_
  refine E.iload_n C dL_law_581 rfl rfl ?_
  refine E.iconst C dL_law_582 (by decide) ?_
  refine E.iadd C dL_law_583 (by omega) ?_
  refine E.sld C hw dL_law_584 (by omega) ?_
  refine E.callA (ci := 9) (S := [vi x]) (As := [vi (scI sc (i + 1)), vi (scI sc (i + 2))]) C hw hM9 yf_X9_deal yv_X9_deal ml_L_71 rfl rfl rfl kd_119 (by decide) ⟨Nat.le_of_ble_eq_true rfl, Nat.le_of_ble_eq_true rfl⟩ ⟨Nat.le_of_ble_eq_true rfl, Nat.le_of_ble_eq_true rfl⟩ (Nat.le_of_ble_eq_true rfl) dL_law_585 rfl (fun y u hpy => ?_)
  obtain ⟨rfl, hJ⟩ := hk9 y u hpy
  exact E.icmp_eq C dL_law_588 (tgt := 1508) (by decide) (fun _ => kk _ hJ) (fun h => absurd rfl h)
set_option maxHeartbeats 2000000 in
theorem lc_13 (C : Cx X G RL cL_law) (hw : LW X G Ln sc) (hI : INV v) (hi : 0 ≤ i ∧ i + 5 ≤ (Ln : Int)) (kk : ∀ u, INV u → E X G 137 3791 1000 u 1508 [some (vr 0), some (vr 1), some (vr 119), some (vi i)] []) : E X G 137 3791 1000 v 593 [some (vr 0), some (vr 1), some (vr 119), some (vi i)] [] := by
  have h25 := hw.2.2.2.1
  obtain ⟨P8, hM8, hk8⟩ := as_dress (G := G) hI (scI sc (i + 1))
  refine E.aload_n C dL_law_593 rfl rfl ?_
  refine E.aload_n C dL_law_594 rfl rfl ?_
  refine E.iload_n C dL_law_595 rfl rfl ?_
  refine E.iconst C dL_law_596 (by decide) ?_
  refine E.iadd C dL_law_597 (by omega) ?_
  refine E.sld C hw dL_law_598 (by omega) ?_
  refine E.callA (ci := 8) (S := []) (As := [vi (scI sc (i + 1))]) C hw hM8 yf_X8_dress yv_X8_dress ml_L_72 rfl rfl rfl kd_1 (by decide) ⟨Nat.le_of_ble_eq_true rfl, Nat.le_of_ble_eq_true rfl⟩ ⟨Nat.le_of_ble_eq_true rfl, Nat.le_of_ble_eq_true rfl⟩ (Nat.le_of_ble_eq_true rfl) dL_law_599 rfl (fun x w hpx => ?_)
  obtain ⟨P9, hM9, hk9⟩ := hk8 x w hpx
  refine E.aload_n C dL_law_602 rfl rfl ?_
  refine E.aload_n C dL_law_603 rfl rfl ?_
  refine E.iload_n C dL_law_604 rfl rfl ?_
  refine E.iconst C dL_law_605 (by decide) ?_
  refine E.iadd C dL_law_606 (by omega) ?_
  refine E.sld C hw dL_law_607 (by omega) ?_
  refine E.callA (ci := 9) (S := [vi x]) (As := [vi (scI sc (i + 1))]) C hw hM9 yf_X9_dress yv_X9_dress ml_L_75 rfl rfl rfl kd_119 (by decide) ⟨Nat.le_of_ble_eq_true rfl, Nat.le_of_ble_eq_true rfl⟩ ⟨Nat.le_of_ble_eq_true rfl, Nat.le_of_ble_eq_true rfl⟩ (Nat.le_of_ble_eq_true rfl) dL_law_608 rfl (fun y u hpy => ?_)
  obtain ⟨rfl, hJ⟩ := hk9 y u hpy
  exact E.icmp_eq C dL_law_611 (tgt := 1508) (by decide) (fun _ => kk _ hJ) (fun h => absurd rfl h)
set_option maxHeartbeats 2000000 in
theorem lc_14 (C : Cx X G RL cL_law) (hw : LW X G Ln sc) (hI : INV v) (hi : 0 ≤ i ∧ i + 5 ≤ (Ln : Int)) (kk : ∀ u, INV u → E X G 137 3791 1000 u 1508 [some (vr 0), some (vr 1), some (vr 119), some (vi i)] []) : E X G 137 3791 1000 v 616 [some (vr 0), some (vr 1), some (vr 119), some (vi i)] [] := by
  have h25 := hw.2.2.2.1
  obtain ⟨P8, hM8, hk8⟩ := as_spare (G := G) hI (scI sc (i + 1))
  refine E.aload_n C dL_law_616 rfl rfl ?_
  refine E.aload_n C dL_law_617 rfl rfl ?_
  refine E.iload_n C dL_law_618 rfl rfl ?_
  refine E.iconst C dL_law_619 (by decide) ?_
  refine E.iadd C dL_law_620 (by omega) ?_
  refine E.sld C hw dL_law_621 (by omega) ?_
  refine E.callA (ci := 8) (S := []) (As := [vi (scI sc (i + 1))]) C hw hM8 yf_X8_spare yv_X8_spare ml_L_76 rfl rfl rfl kd_1 (by decide) ⟨Nat.le_of_ble_eq_true rfl, Nat.le_of_ble_eq_true rfl⟩ ⟨Nat.le_of_ble_eq_true rfl, Nat.le_of_ble_eq_true rfl⟩ (Nat.le_of_ble_eq_true rfl) dL_law_622 rfl (fun x w hpx => ?_)
  obtain ⟨P9, hM9, hk9⟩ := hk8 x w hpx
  refine E.aload_n C dL_law_625 rfl rfl ?_
  refine E.aload_n C dL_law_626 rfl rfl ?_
  refine E.iload_n C dL_law_627 rfl rfl ?_
  refine E.iconst C dL_law_628 (by decide) ?_
  refine E.iadd C dL_law_629 (by omega) ?_
  refine E.sld C hw dL_law_630 (by omega) ?_
  refine E.callA (ci := 9) (S := [vi x]) (As := [vi (scI sc (i + 1))]) C hw hM9 yf_X9_spare yv_X9_spare ml_L_79 rfl rfl rfl kd_119 (by decide) ⟨Nat.le_of_ble_eq_true rfl, Nat.le_of_ble_eq_true rfl⟩ ⟨Nat.le_of_ble_eq_true rfl, Nat.le_of_ble_eq_true rfl⟩ (Nat.le_of_ble_eq_true rfl) dL_law_631 rfl (fun y u hpy => ?_)
  obtain ⟨rfl, hJ⟩ := hk9 y u hpy
  exact E.icmp_eq C dL_law_634 (tgt := 1508) (by decide) (fun _ => kk _ hJ) (fun h => absurd rfl h)
set_option maxHeartbeats 2000000 in
theorem lc_15 (C : Cx X G RL cL_law) (hw : LW X G Ln sc) (hI : INV v) (hi : 0 ≤ i ∧ i + 5 ≤ (Ln : Int)) (kk : ∀ u, INV u → E X G 137 3791 1000 u 1508 [some (vr 0), some (vr 1), some (vr 119), some (vi i)] []) : E X G 137 3791 1000 v 639 [some (vr 0), some (vr 1), some (vr 119), some (vi i)] [] := by
  have h25 := hw.2.2.2.1
  obtain ⟨P8, hM8, hk8⟩ := as_winter (G := G) hI 
  refine E.aload_n C dL_law_639 rfl rfl ?_
  refine E.callA (ci := 8) (S := []) (As := []) C hw hM8 yf_X8_winter yv_X8_winter ml_L_80 rfl rfl rfl kd_1 (by decide) ⟨Nat.le_of_ble_eq_true rfl, Nat.le_of_ble_eq_true rfl⟩ ⟨Nat.le_of_ble_eq_true rfl, Nat.le_of_ble_eq_true rfl⟩ (Nat.le_of_ble_eq_true rfl) dL_law_640 rfl (fun x w hpx => ?_)
  obtain ⟨P9, hM9, hk9⟩ := hk8 x w hpx
  refine E.aload_n C dL_law_643 rfl rfl ?_
  refine E.callA (ci := 9) (S := [vi x]) (As := []) C hw hM9 yf_X9_winter yv_X9_winter ml_L_83 rfl rfl rfl kd_119 (by decide) ⟨Nat.le_of_ble_eq_true rfl, Nat.le_of_ble_eq_true rfl⟩ ⟨Nat.le_of_ble_eq_true rfl, Nat.le_of_ble_eq_true rfl⟩ (Nat.le_of_ble_eq_true rfl) dL_law_644 rfl (fun y u hpy => ?_)
  obtain ⟨rfl, hJ⟩ := hk9 y u hpy
  exact E.icmp_eq C dL_law_647 (tgt := 1508) (by decide) (fun _ => kk _ hJ) (fun h => absurd rfl h)
set_option maxHeartbeats 2000000 in
theorem lc_16 (C : Cx X G RL cL_law) (hw : LW X G Ln sc) (hI : INV v) (hi : 0 ≤ i ∧ i + 5 ≤ (Ln : Int)) (kk : ∀ u, INV u → E X G 137 3791 1000 u 1508 [some (vr 0), some (vr 1), some (vr 119), some (vi i)] []) : E X G 137 3791 1000 v 652 [some (vr 0), some (vr 1), some (vr 119), some (vi i)] [] := by
  have h25 := hw.2.2.2.1
  by_cases hq : scI sc (i + 1) = 0
  · skip
    obtain ⟨P8, hM8, hk8⟩ := as_spring (G := G) hI 0
    refine E.aload_n C dL_law_652 rfl rfl ?_
    refine E.aload_n C dL_law_653 rfl rfl ?_
    refine E.iload_n C dL_law_654 rfl rfl ?_
    refine E.iconst C dL_law_655 (by decide) ?_
    refine E.iadd C dL_law_656 (by omega) ?_
    refine E.sld C hw dL_law_657 (by omega) ?_
    refine E.if_eq C dL_law_658 (tgt := 665) (by decide) (fun _ => ?_) (fun h => absurd hq h)
    refine E.iconst C dL_law_665 (by decide) ?_
    refine E.callA (ci := 8) (S := []) (As := [vi 0]) C hw hM8 yf_X8_spring yv_X8_spring ml_L_84 rfl rfl rfl kd_1 (by decide) ⟨Nat.le_of_ble_eq_true rfl, Nat.le_of_ble_eq_true rfl⟩ ⟨Nat.le_of_ble_eq_true rfl, Nat.le_of_ble_eq_true rfl⟩ (Nat.le_of_ble_eq_true rfl) dL_law_666 rfl (fun x w hpx => ?_)
    obtain ⟨P9, hM9, hk9⟩ := hk8 x w hpx
    refine E.aload_n C dL_law_669 rfl rfl ?_
    refine E.aload_n C dL_law_670 rfl rfl ?_
    refine E.iload_n C dL_law_671 rfl rfl ?_
    refine E.iconst C dL_law_672 (by decide) ?_
    refine E.iadd C dL_law_673 (by omega) ?_
    refine E.sld C hw dL_law_674 (by omega) ?_
    refine E.if_eq C dL_law_675 (tgt := 682) (by decide) (fun _ => ?_) (fun h => absurd hq h)
    refine E.iconst C dL_law_682 (by decide) ?_
    refine E.callA (ci := 9) (S := [vi x]) (As := [vi 0]) C hw hM9 yf_X9_spring yv_X9_spring ml_L_88 rfl rfl rfl kd_119 (by decide) ⟨Nat.le_of_ble_eq_true rfl, Nat.le_of_ble_eq_true rfl⟩ ⟨Nat.le_of_ble_eq_true rfl, Nat.le_of_ble_eq_true rfl⟩ (Nat.le_of_ble_eq_true rfl) dL_law_683 rfl (fun y u hpy => ?_)
    obtain ⟨rfl, hJ⟩ := hk9 y u hpy
    exact E.icmp_eq C dL_law_686 (tgt := 1508) (by decide) (fun _ => kk _ hJ) (fun h => absurd rfl h)
  · skip
    obtain ⟨P8, hM8, hk8⟩ := as_spring (G := G) hI 1
    refine E.aload_n C dL_law_652 rfl rfl ?_
    refine E.aload_n C dL_law_653 rfl rfl ?_
    refine E.iload_n C dL_law_654 rfl rfl ?_
    refine E.iconst C dL_law_655 (by decide) ?_
    refine E.iadd C dL_law_656 (by omega) ?_
    refine E.sld C hw dL_law_657 (by omega) ?_
    refine E.if_eq C dL_law_658 (tgt := 665) (by decide) (fun h => absurd h hq) (fun _ => ?_)
    refine E.iconst C dL_law_661 (by decide) ?_
    refine E.goto C dL_law_662 (tgt := 666) (by decide) ?_
    refine E.callA (ci := 8) (S := []) (As := [vi 1]) C hw hM8 yf_X8_spring yv_X8_spring ml_L_84 rfl rfl rfl kd_1 (by decide) ⟨Nat.le_of_ble_eq_true rfl, Nat.le_of_ble_eq_true rfl⟩ ⟨Nat.le_of_ble_eq_true rfl, Nat.le_of_ble_eq_true rfl⟩ (Nat.le_of_ble_eq_true rfl) dL_law_666 rfl (fun x w hpx => ?_)
    obtain ⟨P9, hM9, hk9⟩ := hk8 x w hpx
    refine E.aload_n C dL_law_669 rfl rfl ?_
    refine E.aload_n C dL_law_670 rfl rfl ?_
    refine E.iload_n C dL_law_671 rfl rfl ?_
    refine E.iconst C dL_law_672 (by decide) ?_
    refine E.iadd C dL_law_673 (by omega) ?_
    refine E.sld C hw dL_law_674 (by omega) ?_
    refine E.if_eq C dL_law_675 (tgt := 682) (by decide) (fun h => absurd h hq) (fun _ => ?_)
    refine E.iconst C dL_law_678 (by decide) ?_
    refine E.goto C dL_law_679 (tgt := 683) (by decide) ?_
    refine E.callA (ci := 9) (S := [vi x]) (As := [vi 1]) C hw hM9 yf_X9_spring yv_X9_spring ml_L_88 rfl rfl rfl kd_119 (by decide) ⟨Nat.le_of_ble_eq_true rfl, Nat.le_of_ble_eq_true rfl⟩ ⟨Nat.le_of_ble_eq_true rfl, Nat.le_of_ble_eq_true rfl⟩ (Nat.le_of_ble_eq_true rfl) dL_law_683 rfl (fun y u hpy => ?_)
    obtain ⟨rfl, hJ⟩ := hk9 y u hpy
    exact E.icmp_eq C dL_law_686 (tgt := 1508) (by decide) (fun _ => kk _ hJ) (fun h => absurd rfl h)
set_option maxHeartbeats 2000000 in
theorem lc_17 (C : Cx X G RL cL_law) (hw : LW X G Ln sc) (hI : INV v) (hi : 0 ≤ i ∧ i + 5 ≤ (Ln : Int)) (kk : ∀ u, INV u → E X G 137 3791 1000 u 1508 [some (vr 0), some (vr 1), some (vr 119), some (vi i)] []) : E X G 137 3791 1000 v 691 [some (vr 0), some (vr 1), some (vr 119), some (vi i)] [] := by
  have h25 := hw.2.2.2.1
  by_cases hq : scI sc (i + 3) = 0
  · skip
    obtain ⟨P8, hM8, hk8⟩ := as_ahead (G := G) hI (scI sc (i + 1)) (scI sc (i + 2)) 0 (scI sc (i + 4))
    refine E.aload_n C dL_law_691 rfl rfl ?_
    refine E.aload_n C dL_law_692 rfl rfl ?_
    refine E.iload_n C dL_law_693 rfl rfl ?_
    refine E.iconst C dL_law_694 (by decide) ?_
    refine E.iadd C dL_law_695 (by omega) ?_
    refine E.sld C hw dL_law_696 (by omega) ?_
    refine E.aload_n C dL_law_697 rfl rfl ?_
    refine E.iload_n C dL_law_698 rfl rfl ?_
    refine E.iconst C dL_law_699 (by decide) ?_
    refine E.iadd C dL_law_700 (by omega) ?_
    refine E.sld C hw dL_law_701 (by omega) ?_
    refine E.aload_n C dL_law_702 rfl rfl ?_
    refine E.iload_n C dL_law_703 rfl rfl ?_
    refine E.iconst C dL_law_704 (by decide) ?_
    refine E.iadd C dL_law_705 (by omega) ?_
    refine E.sld C hw dL_law_706 (by omega) ?_
    refine E.if_eq C dL_law_707 (tgt := 714) (by decide) (fun _ => ?_) (fun h => absurd hq h)
    refine E.iconst C dL_law_714 (by decide) ?_
    refine E.aload_n C dL_law_715 rfl rfl ?_
    refine E.iload_n C dL_law_716 rfl rfl ?_
    refine E.iconst C dL_law_717 (by decide) ?_
    refine E.iadd C dL_law_718 (by omega) ?_
    refine E.sld C hw dL_law_719 (by omega) ?_
    refine E.callA (ci := 8) (S := []) (As := [vi (scI sc (i + 1)), vi (scI sc (i + 2)), vi 0, vi (scI sc (i + 4))]) C hw hM8 yf_X8_ahead yv_X8_ahead ml_L_89 rfl rfl rfl kd_1 (by decide) ⟨Nat.le_of_ble_eq_true rfl, Nat.le_of_ble_eq_true rfl⟩ ⟨Nat.le_of_ble_eq_true rfl, Nat.le_of_ble_eq_true rfl⟩ (Nat.le_of_ble_eq_true rfl) dL_law_720 rfl (fun x w hpx => ?_)
    obtain ⟨P9, hM9, hk9⟩ := hk8 x w hpx
    refine E.aload_n C dL_law_723 rfl rfl ?_
    refine E.aload_n C dL_law_724 rfl rfl ?_
    refine E.iload_n C dL_law_725 rfl rfl ?_
    refine E.iconst C dL_law_726 (by decide) ?_
    refine E.iadd C dL_law_727 (by omega) ?_
    refine E.sld C hw dL_law_728 (by omega) ?_
    refine E.aload_n C dL_law_729 rfl rfl ?_
    refine E.iload_n C dL_law_730 rfl rfl ?_
    refine E.iconst C dL_law_731 (by decide) ?_
    refine E.iadd C dL_law_732 (by omega) ?_
    refine E.sld C hw dL_law_733 (by omega) ?_
    refine E.aload_n C dL_law_734 rfl rfl ?_
    refine E.iload_n C dL_law_735 rfl rfl ?_
    refine E.iconst C dL_law_736 (by decide) ?_
    refine E.iadd C dL_law_737 (by omega) ?_
    refine E.sld C hw dL_law_738 (by omega) ?_
    refine E.if_eq C dL_law_739 (tgt := 746) (by decide) (fun _ => ?_) (fun h => absurd hq h)
    refine E.iconst C dL_law_746 (by decide) ?_
    refine E.aload_n C dL_law_747 rfl rfl ?_
    refine E.iload_n C dL_law_748 rfl rfl ?_
    refine E.iconst C dL_law_749 (by decide) ?_
    refine E.iadd C dL_law_750 (by omega) ?_
    refine E.sld C hw dL_law_751 (by omega) ?_
    refine E.callA (ci := 9) (S := [vi x]) (As := [vi (scI sc (i + 1)), vi (scI sc (i + 2)), vi 0, vi (scI sc (i + 4))]) C hw hM9 yf_X9_ahead yv_X9_ahead ml_L_93 rfl rfl rfl kd_119 (by decide) ⟨Nat.le_of_ble_eq_true rfl, Nat.le_of_ble_eq_true rfl⟩ ⟨Nat.le_of_ble_eq_true rfl, Nat.le_of_ble_eq_true rfl⟩ (Nat.le_of_ble_eq_true rfl) dL_law_752 rfl (fun y u hpy => ?_)
    obtain ⟨rfl, hJ⟩ := hk9 y u hpy
    exact E.icmp_eq C dL_law_755 (tgt := 1508) (by decide) (fun _ => kk _ hJ) (fun h => absurd rfl h)
  · skip
    obtain ⟨P8, hM8, hk8⟩ := as_ahead (G := G) hI (scI sc (i + 1)) (scI sc (i + 2)) 1 (scI sc (i + 4))
    refine E.aload_n C dL_law_691 rfl rfl ?_
    refine E.aload_n C dL_law_692 rfl rfl ?_
    refine E.iload_n C dL_law_693 rfl rfl ?_
    refine E.iconst C dL_law_694 (by decide) ?_
    refine E.iadd C dL_law_695 (by omega) ?_
    refine E.sld C hw dL_law_696 (by omega) ?_
    refine E.aload_n C dL_law_697 rfl rfl ?_
    refine E.iload_n C dL_law_698 rfl rfl ?_
    refine E.iconst C dL_law_699 (by decide) ?_
    refine E.iadd C dL_law_700 (by omega) ?_
    refine E.sld C hw dL_law_701 (by omega) ?_
    refine E.aload_n C dL_law_702 rfl rfl ?_
    refine E.iload_n C dL_law_703 rfl rfl ?_
    refine E.iconst C dL_law_704 (by decide) ?_
    refine E.iadd C dL_law_705 (by omega) ?_
    refine E.sld C hw dL_law_706 (by omega) ?_
    refine E.if_eq C dL_law_707 (tgt := 714) (by decide) (fun h => absurd h hq) (fun _ => ?_)
    refine E.iconst C dL_law_710 (by decide) ?_
    refine E.goto C dL_law_711 (tgt := 715) (by decide) ?_
    refine E.aload_n C dL_law_715 rfl rfl ?_
    refine E.iload_n C dL_law_716 rfl rfl ?_
    refine E.iconst C dL_law_717 (by decide) ?_
    refine E.iadd C dL_law_718 (by omega) ?_
    refine E.sld C hw dL_law_719 (by omega) ?_
    refine E.callA (ci := 8) (S := []) (As := [vi (scI sc (i + 1)), vi (scI sc (i + 2)), vi 1, vi (scI sc (i + 4))]) C hw hM8 yf_X8_ahead yv_X8_ahead ml_L_89 rfl rfl rfl kd_1 (by decide) ⟨Nat.le_of_ble_eq_true rfl, Nat.le_of_ble_eq_true rfl⟩ ⟨Nat.le_of_ble_eq_true rfl, Nat.le_of_ble_eq_true rfl⟩ (Nat.le_of_ble_eq_true rfl) dL_law_720 rfl (fun x w hpx => ?_)
    obtain ⟨P9, hM9, hk9⟩ := hk8 x w hpx
    refine E.aload_n C dL_law_723 rfl rfl ?_
    refine E.aload_n C dL_law_724 rfl rfl ?_
    refine E.iload_n C dL_law_725 rfl rfl ?_
    refine E.iconst C dL_law_726 (by decide) ?_
    refine E.iadd C dL_law_727 (by omega) ?_
    refine E.sld C hw dL_law_728 (by omega) ?_
    refine E.aload_n C dL_law_729 rfl rfl ?_
    refine E.iload_n C dL_law_730 rfl rfl ?_
    refine E.iconst C dL_law_731 (by decide) ?_
    refine E.iadd C dL_law_732 (by omega) ?_
    refine E.sld C hw dL_law_733 (by omega) ?_
    refine E.aload_n C dL_law_734 rfl rfl ?_
    refine E.iload_n C dL_law_735 rfl rfl ?_
    refine E.iconst C dL_law_736 (by decide) ?_
    refine E.iadd C dL_law_737 (by omega) ?_
    refine E.sld C hw dL_law_738 (by omega) ?_
    refine E.if_eq C dL_law_739 (tgt := 746) (by decide) (fun h => absurd h hq) (fun _ => ?_)
    refine E.iconst C dL_law_742 (by decide) ?_
    refine E.goto C dL_law_743 (tgt := 747) (by decide) ?_
    refine E.aload_n C dL_law_747 rfl rfl ?_
    refine E.iload_n C dL_law_748 rfl rfl ?_
    refine E.iconst C dL_law_749 (by decide) ?_
    refine E.iadd C dL_law_750 (by omega) ?_
    refine E.sld C hw dL_law_751 (by omega) ?_
    refine E.callA (ci := 9) (S := [vi x]) (As := [vi (scI sc (i + 1)), vi (scI sc (i + 2)), vi 1, vi (scI sc (i + 4))]) C hw hM9 yf_X9_ahead yv_X9_ahead ml_L_93 rfl rfl rfl kd_119 (by decide) ⟨Nat.le_of_ble_eq_true rfl, Nat.le_of_ble_eq_true rfl⟩ ⟨Nat.le_of_ble_eq_true rfl, Nat.le_of_ble_eq_true rfl⟩ (Nat.le_of_ble_eq_true rfl) dL_law_752 rfl (fun y u hpy => ?_)
    obtain ⟨rfl, hJ⟩ := hk9 y u hpy
    exact E.icmp_eq C dL_law_755 (tgt := 1508) (by decide) (fun _ => kk _ hJ) (fun h => absurd rfl h)
set_option maxHeartbeats 2000000 in
theorem lc_18 (C : Cx X G RL cL_law) (hw : LW X G Ln sc) (hI : INV v) (hi : 0 ≤ i ∧ i + 5 ≤ (Ln : Int)) (kk : ∀ u, INV u → E X G 137 3791 1000 u 1508 [some (vr 0), some (vr 1), some (vr 119), some (vi i)] []) : E X G 137 3791 1000 v 760 [some (vr 0), some (vr 1), some (vr 119), some (vi i)] [] := by
  have h25 := hw.2.2.2.1
  by_cases hq : scI sc (i + 3) = 0
  · skip
    obtain ⟨P8, hM8, hk8⟩ := as_strong (G := G) hI (scI sc (i + 1)) (scI sc (i + 2)) 0
    refine E.aload_n C dL_law_760 rfl rfl ?_
    refine E.aload_n C dL_law_761 rfl rfl ?_
    refine E.iload_n C dL_law_762 rfl rfl ?_
    refine E.iconst C dL_law_763 (by decide) ?_
    refine E.iadd C dL_law_764 (by omega) ?_
    refine E.sld C hw dL_law_765 (by omega) ?_
    refine E.aload_n C dL_law_766 rfl rfl ?_
    refine E.iload_n C dL_law_767 rfl rfl ?_
    refine E.iconst C dL_law_768 (by decide) ?_
    refine E.iadd C dL_law_769 (by omega) ?_
    refine E.sld C hw dL_law_770 (by omega) ?_
    refine E.aload_n C dL_law_771 rfl rfl ?_
    refine E.iload_n C dL_law_772 rfl rfl ?_
    refine E.iconst C dL_law_773 (by decide) ?_
    refine E.iadd C dL_law_774 (by omega) ?_
    refine E.sld C hw dL_law_775 (by omega) ?_
    refine E.if_eq C dL_law_776 (tgt := 783) (by decide) (fun _ => ?_) (fun h => absurd hq h)
    refine E.iconst C dL_law_783 (by decide) ?_
    refine E.callA (ci := 8) (S := []) (As := [vi (scI sc (i + 1)), vi (scI sc (i + 2)), vi 0]) C hw hM8 yf_X8_strong yv_X8_strong ml_L_94 rfl rfl rfl kd_1 (by decide) ⟨Nat.le_of_ble_eq_true rfl, Nat.le_of_ble_eq_true rfl⟩ ⟨Nat.le_of_ble_eq_true rfl, Nat.le_of_ble_eq_true rfl⟩ (Nat.le_of_ble_eq_true rfl) dL_law_784 rfl (fun x w hpx => ?_)
    obtain ⟨P9, hM9, hk9⟩ := hk8 x w hpx
    refine E.aload_n C dL_law_787 rfl rfl ?_
    refine E.aload_n C dL_law_788 rfl rfl ?_
    refine E.iload_n C dL_law_789 rfl rfl ?_
    refine E.iconst C dL_law_790 (by decide) ?_
    refine E.iadd C dL_law_791 (by omega) ?_
    refine E.sld C hw dL_law_792 (by omega) ?_
    refine E.aload_n C dL_law_793 rfl rfl ?_
    refine E.iload_n C dL_law_794 rfl rfl ?_
    refine E.iconst C dL_law_795 (by decide) ?_
    refine E.iadd C dL_law_796 (by omega) ?_
    refine E.sld C hw dL_law_797 (by omega) ?_
    refine E.aload_n C dL_law_798 rfl rfl ?_
    refine E.iload_n C dL_law_799 rfl rfl ?_
    refine E.iconst C dL_law_800 (by decide) ?_
    refine E.iadd C dL_law_801 (by omega) ?_
    refine E.sld C hw dL_law_802 (by omega) ?_
    refine E.if_eq C dL_law_803 (tgt := 810) (by decide) (fun _ => ?_) (fun h => absurd hq h)
    refine E.iconst C dL_law_810 (by decide) ?_
    refine E.callA (ci := 9) (S := [vi x]) (As := [vi (scI sc (i + 1)), vi (scI sc (i + 2)), vi 0]) C hw hM9 yf_X9_strong yv_X9_strong ml_L_98 rfl rfl rfl kd_119 (by decide) ⟨Nat.le_of_ble_eq_true rfl, Nat.le_of_ble_eq_true rfl⟩ ⟨Nat.le_of_ble_eq_true rfl, Nat.le_of_ble_eq_true rfl⟩ (Nat.le_of_ble_eq_true rfl) dL_law_811 rfl (fun y u hpy => ?_)
    obtain ⟨rfl, hJ⟩ := hk9 y u hpy
    exact E.icmp_eq C dL_law_814 (tgt := 1508) (by decide) (fun _ => kk _ hJ) (fun h => absurd rfl h)
  · skip
    obtain ⟨P8, hM8, hk8⟩ := as_strong (G := G) hI (scI sc (i + 1)) (scI sc (i + 2)) 1
    refine E.aload_n C dL_law_760 rfl rfl ?_
    refine E.aload_n C dL_law_761 rfl rfl ?_
    refine E.iload_n C dL_law_762 rfl rfl ?_
    refine E.iconst C dL_law_763 (by decide) ?_
    refine E.iadd C dL_law_764 (by omega) ?_
    refine E.sld C hw dL_law_765 (by omega) ?_
    refine E.aload_n C dL_law_766 rfl rfl ?_
    refine E.iload_n C dL_law_767 rfl rfl ?_
    refine E.iconst C dL_law_768 (by decide) ?_
    refine E.iadd C dL_law_769 (by omega) ?_
    refine E.sld C hw dL_law_770 (by omega) ?_
    refine E.aload_n C dL_law_771 rfl rfl ?_
    refine E.iload_n C dL_law_772 rfl rfl ?_
    refine E.iconst C dL_law_773 (by decide) ?_
    refine E.iadd C dL_law_774 (by omega) ?_
    refine E.sld C hw dL_law_775 (by omega) ?_
    refine E.if_eq C dL_law_776 (tgt := 783) (by decide) (fun h => absurd h hq) (fun _ => ?_)
    refine E.iconst C dL_law_779 (by decide) ?_
    refine E.goto C dL_law_780 (tgt := 784) (by decide) ?_
    refine E.callA (ci := 8) (S := []) (As := [vi (scI sc (i + 1)), vi (scI sc (i + 2)), vi 1]) C hw hM8 yf_X8_strong yv_X8_strong ml_L_94 rfl rfl rfl kd_1 (by decide) ⟨Nat.le_of_ble_eq_true rfl, Nat.le_of_ble_eq_true rfl⟩ ⟨Nat.le_of_ble_eq_true rfl, Nat.le_of_ble_eq_true rfl⟩ (Nat.le_of_ble_eq_true rfl) dL_law_784 rfl (fun x w hpx => ?_)
    obtain ⟨P9, hM9, hk9⟩ := hk8 x w hpx
    refine E.aload_n C dL_law_787 rfl rfl ?_
    refine E.aload_n C dL_law_788 rfl rfl ?_
    refine E.iload_n C dL_law_789 rfl rfl ?_
    refine E.iconst C dL_law_790 (by decide) ?_
    refine E.iadd C dL_law_791 (by omega) ?_
    refine E.sld C hw dL_law_792 (by omega) ?_
    refine E.aload_n C dL_law_793 rfl rfl ?_
    refine E.iload_n C dL_law_794 rfl rfl ?_
    refine E.iconst C dL_law_795 (by decide) ?_
    refine E.iadd C dL_law_796 (by omega) ?_
    refine E.sld C hw dL_law_797 (by omega) ?_
    refine E.aload_n C dL_law_798 rfl rfl ?_
    refine E.iload_n C dL_law_799 rfl rfl ?_
    refine E.iconst C dL_law_800 (by decide) ?_
    refine E.iadd C dL_law_801 (by omega) ?_
    refine E.sld C hw dL_law_802 (by omega) ?_
    refine E.if_eq C dL_law_803 (tgt := 810) (by decide) (fun h => absurd h hq) (fun _ => ?_)
    refine E.iconst C dL_law_806 (by decide) ?_
    refine E.goto C dL_law_807 (tgt := 811) (by decide) ?_
    refine E.callA (ci := 9) (S := [vi x]) (As := [vi (scI sc (i + 1)), vi (scI sc (i + 2)), vi 1]) C hw hM9 yf_X9_strong yv_X9_strong ml_L_98 rfl rfl rfl kd_119 (by decide) ⟨Nat.le_of_ble_eq_true rfl, Nat.le_of_ble_eq_true rfl⟩ ⟨Nat.le_of_ble_eq_true rfl, Nat.le_of_ble_eq_true rfl⟩ (Nat.le_of_ble_eq_true rfl) dL_law_811 rfl (fun y u hpy => ?_)
    obtain ⟨rfl, hJ⟩ := hk9 y u hpy
    exact E.icmp_eq C dL_law_814 (tgt := 1508) (by decide) (fun _ => kk _ hJ) (fun h => absurd rfl h)
set_option maxHeartbeats 2000000 in
theorem lc_19 (C : Cx X G RL cL_law) (hw : LW X G Ln sc) (hI : INV v) (hi : 0 ≤ i ∧ i + 5 ≤ (Ln : Int)) (kk : ∀ u, INV u → E X G 137 3791 1000 u 1508 [some (vr 0), some (vr 1), some (vr 119), some (vi i)] []) : E X G 137 3791 1000 v 819 [some (vr 0), some (vr 1), some (vr 119), some (vi i)] [] := by
  have h25 := hw.2.2.2.1
  obtain ⟨P8, hM8, hk8⟩ := as_cut (G := G) hI (scI sc (i + 1)) (scI sc (i + 2))
  refine E.aload_n C dL_law_819 rfl rfl ?_
  refine E.aload_n C dL_law_820 rfl rfl ?_
  refine E.iload_n C dL_law_821 rfl rfl ?_
  refine E.iconst C dL_law_822 (by decide) ?_
  refine E.iadd C dL_law_823 (by omega) ?_
  refine E.sld C hw dL_law_824 (by omega) ?_
  refine E.aload_n C dL_law_825 rfl rfl ?_
  refine E.iload_n C dL_law_826 rfl rfl ?_
  refine E.iconst C dL_law_827 (by decide) ?_
  refine E.iadd C dL_law_828 (by omega) ?_
  refine E.sld C hw dL_law_829 (by omega) ?_
  refine E.callA (ci := 8) (S := []) (As := [vi (scI sc (i + 1)), vi (scI sc (i + 2))]) C hw hM8 yf_X8_cut yv_X8_cut ml_L_99 rfl rfl rfl kd_1 (by decide) ⟨Nat.le_of_ble_eq_true rfl, Nat.le_of_ble_eq_true rfl⟩ ⟨Nat.le_of_ble_eq_true rfl, Nat.le_of_ble_eq_true rfl⟩ (Nat.le_of_ble_eq_true rfl) dL_law_830 rfl (fun x w hpx => ?_)
  obtain ⟨P9, hM9, hk9⟩ := hk8 x w hpx
  refine E.aload_n C dL_law_833 rfl rfl ?_
  refine E.aload_n C dL_law_834 rfl rfl ?_
  refine E.iload_n C dL_law_835 rfl rfl ?_
  refine E.iconst C dL_law_836 (by decide) ?_
  refine E.iadd C dL_law_837 (by omega) ?_
  refine E.sld C hw dL_law_838 (by omega) ?_
  refine E.aload_n C dL_law_839 rfl rfl ?_
  refine E.iload_n C dL_law_840 rfl rfl ?_
  refine E.iconst C dL_law_841 (by decide) ?_
  refine E.iadd C dL_law_842 (by omega) ?_
  refine E.sld C hw dL_law_843 (by omega) ?_
  refine E.callA (ci := 9) (S := [vi x]) (As := [vi (scI sc (i + 1)), vi (scI sc (i + 2))]) C hw hM9 yf_X9_cut yv_X9_cut ml_L_102 rfl rfl rfl kd_119 (by decide) ⟨Nat.le_of_ble_eq_true rfl, Nat.le_of_ble_eq_true rfl⟩ ⟨Nat.le_of_ble_eq_true rfl, Nat.le_of_ble_eq_true rfl⟩ (Nat.le_of_ble_eq_true rfl) dL_law_844 rfl (fun y u hpy => ?_)
  obtain ⟨rfl, hJ⟩ := hk9 y u hpy
  exact E.icmp_eq C dL_law_847 (tgt := 1508) (by decide) (fun _ => kk _ hJ) (fun h => absurd rfl h)
set_option maxHeartbeats 2000000 in
theorem lc_20 (C : Cx X G RL cL_law) (hw : LW X G Ln sc) (hI : INV v) (hi : 0 ≤ i ∧ i + 5 ≤ (Ln : Int)) (kk : ∀ u, INV u → E X G 137 3791 1000 u 1508 [some (vr 0), some (vr 1), some (vr 119), some (vi i)] []) : E X G 137 3791 1000 v 852 [some (vr 0), some (vr 1), some (vr 119), some (vi i)] [] := by
  have h25 := hw.2.2.2.1
  by_cases hq : scI sc (i + 3) = 0
  · skip
    obtain ⟨P8, hM8, hk8⟩ := as_pays (G := G) hI (scI sc (i + 1)) (scI sc (i + 2)) 0 (scI sc (i + 4))
    refine E.aload_n C dL_law_852 rfl rfl ?_
    refine E.aload_n C dL_law_853 rfl rfl ?_
    refine E.iload_n C dL_law_854 rfl rfl ?_
    refine E.iconst C dL_law_855 (by decide) ?_
    refine E.iadd C dL_law_856 (by omega) ?_
    refine E.sld C hw dL_law_857 (by omega) ?_
    refine E.aload_n C dL_law_858 rfl rfl ?_
    refine E.iload_n C dL_law_859 rfl rfl ?_
    refine E.iconst C dL_law_860 (by decide) ?_
    refine E.iadd C dL_law_861 (by omega) ?_
    refine E.sld C hw dL_law_862 (by omega) ?_
    refine E.aload_n C dL_law_863 rfl rfl ?_
    refine E.iload_n C dL_law_864 rfl rfl ?_
    refine E.iconst C dL_law_865 (by decide) ?_
    refine E.iadd C dL_law_866 (by omega) ?_
    refine E.sld C hw dL_law_867 (by omega) ?_
    refine E.if_eq C dL_law_868 (tgt := 875) (by decide) (fun _ => ?_) (fun h => absurd hq h)
    refine E.iconst C dL_law_875 (by decide) ?_
    refine E.aload_n C dL_law_876 rfl rfl ?_
    refine E.iload_n C dL_law_877 rfl rfl ?_
    refine E.iconst C dL_law_878 (by decide) ?_
    refine E.iadd C dL_law_879 (by omega) ?_
    refine E.sld C hw dL_law_880 (by omega) ?_
    refine E.callA (ci := 8) (S := []) (As := [vi (scI sc (i + 1)), vi (scI sc (i + 2)), vi 0, vi (scI sc (i + 4))]) C hw hM8 yf_X8_pays yv_X8_pays ml_L_103 rfl rfl rfl kd_1 (by decide) ⟨Nat.le_of_ble_eq_true rfl, Nat.le_of_ble_eq_true rfl⟩ ⟨Nat.le_of_ble_eq_true rfl, Nat.le_of_ble_eq_true rfl⟩ (Nat.le_of_ble_eq_true rfl) dL_law_881 rfl (fun x w hpx => ?_)
    obtain ⟨P9, hM9, hk9⟩ := hk8 x w hpx
    refine E.aload_n C dL_law_884 rfl rfl ?_
    refine E.aload_n C dL_law_885 rfl rfl ?_
    refine E.iload_n C dL_law_886 rfl rfl ?_
    refine E.iconst C dL_law_887 (by decide) ?_
    refine E.iadd C dL_law_888 (by omega) ?_
    refine E.sld C hw dL_law_889 (by omega) ?_
    refine E.aload_n C dL_law_890 rfl rfl ?_
    refine E.iload_n C dL_law_891 rfl rfl ?_
    refine E.iconst C dL_law_892 (by decide) ?_
    refine E.iadd C dL_law_893 (by omega) ?_
    refine E.sld C hw dL_law_894 (by omega) ?_
    refine E.aload_n C dL_law_895 rfl rfl ?_
    refine E.iload_n C dL_law_896 rfl rfl ?_
    refine E.iconst C dL_law_897 (by decide) ?_
    refine E.iadd C dL_law_898 (by omega) ?_
    refine E.sld C hw dL_law_899 (by omega) ?_
    refine E.if_eq C dL_law_900 (tgt := 907) (by decide) (fun _ => ?_) (fun h => absurd hq h)
    refine E.iconst C dL_law_907 (by decide) ?_
    refine E.aload_n C dL_law_908 rfl rfl ?_
    refine E.iload_n C dL_law_909 rfl rfl ?_
    refine E.iconst C dL_law_910 (by decide) ?_
    refine E.iadd C dL_law_911 (by omega) ?_
    refine E.sld C hw dL_law_912 (by omega) ?_
    refine E.callA (ci := 9) (S := [vi x]) (As := [vi (scI sc (i + 1)), vi (scI sc (i + 2)), vi 0, vi (scI sc (i + 4))]) C hw hM9 yf_X9_pays yv_X9_pays ml_L_106 rfl rfl rfl kd_119 (by decide) ⟨Nat.le_of_ble_eq_true rfl, Nat.le_of_ble_eq_true rfl⟩ ⟨Nat.le_of_ble_eq_true rfl, Nat.le_of_ble_eq_true rfl⟩ (Nat.le_of_ble_eq_true rfl) dL_law_913 rfl (fun y u hpy => ?_)
    obtain ⟨rfl, hJ⟩ := hk9 y u hpy
    exact E.icmp_eq C dL_law_916 (tgt := 1508) (by decide) (fun _ => kk _ hJ) (fun h => absurd rfl h)
  · skip
    obtain ⟨P8, hM8, hk8⟩ := as_pays (G := G) hI (scI sc (i + 1)) (scI sc (i + 2)) 1 (scI sc (i + 4))
    refine E.aload_n C dL_law_852 rfl rfl ?_
    refine E.aload_n C dL_law_853 rfl rfl ?_
    refine E.iload_n C dL_law_854 rfl rfl ?_
    refine E.iconst C dL_law_855 (by decide) ?_
    refine E.iadd C dL_law_856 (by omega) ?_
    refine E.sld C hw dL_law_857 (by omega) ?_
    refine E.aload_n C dL_law_858 rfl rfl ?_
    refine E.iload_n C dL_law_859 rfl rfl ?_
    refine E.iconst C dL_law_860 (by decide) ?_
    refine E.iadd C dL_law_861 (by omega) ?_
    refine E.sld C hw dL_law_862 (by omega) ?_
    refine E.aload_n C dL_law_863 rfl rfl ?_
    refine E.iload_n C dL_law_864 rfl rfl ?_
    refine E.iconst C dL_law_865 (by decide) ?_
    refine E.iadd C dL_law_866 (by omega) ?_
    refine E.sld C hw dL_law_867 (by omega) ?_
    refine E.if_eq C dL_law_868 (tgt := 875) (by decide) (fun h => absurd h hq) (fun _ => ?_)
    refine E.iconst C dL_law_871 (by decide) ?_
    refine E.goto C dL_law_872 (tgt := 876) (by decide) ?_
    refine E.aload_n C dL_law_876 rfl rfl ?_
    refine E.iload_n C dL_law_877 rfl rfl ?_
    refine E.iconst C dL_law_878 (by decide) ?_
    refine E.iadd C dL_law_879 (by omega) ?_
    refine E.sld C hw dL_law_880 (by omega) ?_
    refine E.callA (ci := 8) (S := []) (As := [vi (scI sc (i + 1)), vi (scI sc (i + 2)), vi 1, vi (scI sc (i + 4))]) C hw hM8 yf_X8_pays yv_X8_pays ml_L_103 rfl rfl rfl kd_1 (by decide) ⟨Nat.le_of_ble_eq_true rfl, Nat.le_of_ble_eq_true rfl⟩ ⟨Nat.le_of_ble_eq_true rfl, Nat.le_of_ble_eq_true rfl⟩ (Nat.le_of_ble_eq_true rfl) dL_law_881 rfl (fun x w hpx => ?_)
    obtain ⟨P9, hM9, hk9⟩ := hk8 x w hpx
    refine E.aload_n C dL_law_884 rfl rfl ?_
    refine E.aload_n C dL_law_885 rfl rfl ?_
    refine E.iload_n C dL_law_886 rfl rfl ?_
    refine E.iconst C dL_law_887 (by decide) ?_
    refine E.iadd C dL_law_888 (by omega) ?_
    refine E.sld C hw dL_law_889 (by omega) ?_
    refine E.aload_n C dL_law_890 rfl rfl ?_
    refine E.iload_n C dL_law_891 rfl rfl ?_
    refine E.iconst C dL_law_892 (by decide) ?_
    refine E.iadd C dL_law_893 (by omega) ?_
    refine E.sld C hw dL_law_894 (by omega) ?_
    refine E.aload_n C dL_law_895 rfl rfl ?_
    refine E.iload_n C dL_law_896 rfl rfl ?_
    refine E.iconst C dL_law_897 (by decide) ?_
    refine E.iadd C dL_law_898 (by omega) ?_
    refine E.sld C hw dL_law_899 (by omega) ?_
    refine E.if_eq C dL_law_900 (tgt := 907) (by decide) (fun h => absurd h hq) (fun _ => ?_)
    refine E.iconst C dL_law_903 (by decide) ?_
    refine E.goto C dL_law_904 (tgt := 908) (by decide) ?_
    refine E.aload_n C dL_law_908 rfl rfl ?_
    refine E.iload_n C dL_law_909 rfl rfl ?_
    refine E.iconst C dL_law_910 (by decide) ?_
    refine E.iadd C dL_law_911 (by omega) ?_
    refine E.sld C hw dL_law_912 (by omega) ?_
    refine E.callA (ci := 9) (S := [vi x]) (As := [vi (scI sc (i + 1)), vi (scI sc (i + 2)), vi 1, vi (scI sc (i + 4))]) C hw hM9 yf_X9_pays yv_X9_pays ml_L_106 rfl rfl rfl kd_119 (by decide) ⟨Nat.le_of_ble_eq_true rfl, Nat.le_of_ble_eq_true rfl⟩ ⟨Nat.le_of_ble_eq_true rfl, Nat.le_of_ble_eq_true rfl⟩ (Nat.le_of_ble_eq_true rfl) dL_law_913 rfl (fun y u hpy => ?_)
    obtain ⟨rfl, hJ⟩ := hk9 y u hpy
    exact E.icmp_eq C dL_law_916 (tgt := 1508) (by decide) (fun _ => kk _ hJ) (fun h => absurd rfl h)
set_option maxHeartbeats 2000000 in
theorem lc_21 (C : Cx X G RL cL_law) (hw : LW X G Ln sc) (hI : INV v) (hi : 0 ≤ i ∧ i + 5 ≤ (Ln : Int)) (kk : ∀ u, INV u → E X G 137 3791 1000 u 1508 [some (vr 0), some (vr 1), some (vr 119), some (vi i)] []) : E X G 137 3791 1000 v 921 [some (vr 0), some (vr 1), some (vr 119), some (vi i)] [] := by
  have h25 := hw.2.2.2.1
  by_cases hq : scI sc (i + 3) = 0
  · skip
    obtain ⟨P8, hM8, hk8⟩ := as_best (G := G) hI (scI sc (i + 1)) (scI sc (i + 2)) 0 (scI sc (i + 4))
    refine E.aload_n C dL_law_921 rfl rfl ?_
    refine E.aload_n C dL_law_922 rfl rfl ?_
    refine E.iload_n C dL_law_923 rfl rfl ?_
    refine E.iconst C dL_law_924 (by decide) ?_
    refine E.iadd C dL_law_925 (by omega) ?_
    refine E.sld C hw dL_law_926 (by omega) ?_
    refine E.aload_n C dL_law_927 rfl rfl ?_
    refine E.iload_n C dL_law_928 rfl rfl ?_
    refine E.iconst C dL_law_929 (by decide) ?_
    refine E.iadd C dL_law_930 (by omega) ?_
    refine E.sld C hw dL_law_931 (by omega) ?_
    refine E.aload_n C dL_law_932 rfl rfl ?_
    refine E.iload_n C dL_law_933 rfl rfl ?_
    refine E.iconst C dL_law_934 (by decide) ?_
    refine E.iadd C dL_law_935 (by omega) ?_
    refine E.sld C hw dL_law_936 (by omega) ?_
    refine E.if_eq C dL_law_937 (tgt := 944) (by decide) (fun _ => ?_) (fun h => absurd hq h)
    refine E.iconst C dL_law_944 (by decide) ?_
    refine E.aload_n C dL_law_945 rfl rfl ?_
    refine E.iload_n C dL_law_946 rfl rfl ?_
    refine E.iconst C dL_law_947 (by decide) ?_
    refine E.iadd C dL_law_948 (by omega) ?_
    refine E.sld C hw dL_law_949 (by omega) ?_
    refine E.callA (ci := 8) (S := []) (As := [vi (scI sc (i + 1)), vi (scI sc (i + 2)), vi 0, vi (scI sc (i + 4))]) C hw hM8 yf_X8_best yv_X8_best ml_L_107 rfl rfl rfl kd_1 (by decide) ⟨Nat.le_of_ble_eq_true rfl, Nat.le_of_ble_eq_true rfl⟩ ⟨Nat.le_of_ble_eq_true rfl, Nat.le_of_ble_eq_true rfl⟩ (Nat.le_of_ble_eq_true rfl) dL_law_950 rfl (fun x w hpx => ?_)
    obtain ⟨P9, hM9, hk9⟩ := hk8 x w hpx
    refine E.aload_n C dL_law_953 rfl rfl ?_
    refine E.aload_n C dL_law_954 rfl rfl ?_
    refine E.iload_n C dL_law_955 rfl rfl ?_
    refine E.iconst C dL_law_956 (by decide) ?_
    refine E.iadd C dL_law_957 (by omega) ?_
    refine E.sld C hw dL_law_958 (by omega) ?_
    refine E.aload_n C dL_law_959 rfl rfl ?_
    refine E.iload_n C dL_law_960 rfl rfl ?_
    refine E.iconst C dL_law_961 (by decide) ?_
    refine E.iadd C dL_law_962 (by omega) ?_
    refine E.sld C hw dL_law_963 (by omega) ?_
    refine E.aload_n C dL_law_964 rfl rfl ?_
    refine E.iload_n C dL_law_965 rfl rfl ?_
    refine E.iconst C dL_law_966 (by decide) ?_
    refine E.iadd C dL_law_967 (by omega) ?_
    refine E.sld C hw dL_law_968 (by omega) ?_
    refine E.if_eq C dL_law_969 (tgt := 976) (by decide) (fun _ => ?_) (fun h => absurd hq h)
    refine E.iconst C dL_law_976 (by decide) ?_
    refine E.aload_n C dL_law_977 rfl rfl ?_
    refine E.iload_n C dL_law_978 rfl rfl ?_
    refine E.iconst C dL_law_979 (by decide) ?_
    refine E.iadd C dL_law_980 (by omega) ?_
    refine E.sld C hw dL_law_981 (by omega) ?_
    refine E.callA (ci := 9) (S := [vi x]) (As := [vi (scI sc (i + 1)), vi (scI sc (i + 2)), vi 0, vi (scI sc (i + 4))]) C hw hM9 yf_X9_best yv_X9_best ml_L_110 rfl rfl rfl kd_119 (by decide) ⟨Nat.le_of_ble_eq_true rfl, Nat.le_of_ble_eq_true rfl⟩ ⟨Nat.le_of_ble_eq_true rfl, Nat.le_of_ble_eq_true rfl⟩ (Nat.le_of_ble_eq_true rfl) dL_law_982 rfl (fun y u hpy => ?_)
    obtain ⟨rfl, hJ⟩ := hk9 y u hpy
    exact E.icmp_eq C dL_law_985 (tgt := 1508) (by decide) (fun _ => kk _ hJ) (fun h => absurd rfl h)
  · skip
    obtain ⟨P8, hM8, hk8⟩ := as_best (G := G) hI (scI sc (i + 1)) (scI sc (i + 2)) 1 (scI sc (i + 4))
    refine E.aload_n C dL_law_921 rfl rfl ?_
    refine E.aload_n C dL_law_922 rfl rfl ?_
    refine E.iload_n C dL_law_923 rfl rfl ?_
    refine E.iconst C dL_law_924 (by decide) ?_
    refine E.iadd C dL_law_925 (by omega) ?_
    refine E.sld C hw dL_law_926 (by omega) ?_
    refine E.aload_n C dL_law_927 rfl rfl ?_
    refine E.iload_n C dL_law_928 rfl rfl ?_
    refine E.iconst C dL_law_929 (by decide) ?_
    refine E.iadd C dL_law_930 (by omega) ?_
    refine E.sld C hw dL_law_931 (by omega) ?_
    refine E.aload_n C dL_law_932 rfl rfl ?_
    refine E.iload_n C dL_law_933 rfl rfl ?_
    refine E.iconst C dL_law_934 (by decide) ?_
    refine E.iadd C dL_law_935 (by omega) ?_
    refine E.sld C hw dL_law_936 (by omega) ?_
    refine E.if_eq C dL_law_937 (tgt := 944) (by decide) (fun h => absurd h hq) (fun _ => ?_)
    refine E.iconst C dL_law_940 (by decide) ?_
    refine E.goto C dL_law_941 (tgt := 945) (by decide) ?_
    refine E.aload_n C dL_law_945 rfl rfl ?_
    refine E.iload_n C dL_law_946 rfl rfl ?_
    refine E.iconst C dL_law_947 (by decide) ?_
    refine E.iadd C dL_law_948 (by omega) ?_
    refine E.sld C hw dL_law_949 (by omega) ?_
    refine E.callA (ci := 8) (S := []) (As := [vi (scI sc (i + 1)), vi (scI sc (i + 2)), vi 1, vi (scI sc (i + 4))]) C hw hM8 yf_X8_best yv_X8_best ml_L_107 rfl rfl rfl kd_1 (by decide) ⟨Nat.le_of_ble_eq_true rfl, Nat.le_of_ble_eq_true rfl⟩ ⟨Nat.le_of_ble_eq_true rfl, Nat.le_of_ble_eq_true rfl⟩ (Nat.le_of_ble_eq_true rfl) dL_law_950 rfl (fun x w hpx => ?_)
    obtain ⟨P9, hM9, hk9⟩ := hk8 x w hpx
    refine E.aload_n C dL_law_953 rfl rfl ?_
    refine E.aload_n C dL_law_954 rfl rfl ?_
    refine E.iload_n C dL_law_955 rfl rfl ?_
    refine E.iconst C dL_law_956 (by decide) ?_
    refine E.iadd C dL_law_957 (by omega) ?_
    refine E.sld C hw dL_law_958 (by omega) ?_
    refine E.aload_n C dL_law_959 rfl rfl ?_
    refine E.iload_n C dL_law_960 rfl rfl ?_
    refine E.iconst C dL_law_961 (by decide) ?_
    refine E.iadd C dL_law_962 (by omega) ?_
    refine E.sld C hw dL_law_963 (by omega) ?_
    refine E.aload_n C dL_law_964 rfl rfl ?_
    refine E.iload_n C dL_law_965 rfl rfl ?_
    refine E.iconst C dL_law_966 (by decide) ?_
    refine E.iadd C dL_law_967 (by omega) ?_
    refine E.sld C hw dL_law_968 (by omega) ?_
    refine E.if_eq C dL_law_969 (tgt := 976) (by decide) (fun h => absurd h hq) (fun _ => ?_)
    refine E.iconst C dL_law_972 (by decide) ?_
    refine E.goto C dL_law_973 (tgt := 977) (by decide) ?_
    refine E.aload_n C dL_law_977 rfl rfl ?_
    refine E.iload_n C dL_law_978 rfl rfl ?_
    refine E.iconst C dL_law_979 (by decide) ?_
    refine E.iadd C dL_law_980 (by omega) ?_
    refine E.sld C hw dL_law_981 (by omega) ?_
    refine E.callA (ci := 9) (S := [vi x]) (As := [vi (scI sc (i + 1)), vi (scI sc (i + 2)), vi 1, vi (scI sc (i + 4))]) C hw hM9 yf_X9_best yv_X9_best ml_L_110 rfl rfl rfl kd_119 (by decide) ⟨Nat.le_of_ble_eq_true rfl, Nat.le_of_ble_eq_true rfl⟩ ⟨Nat.le_of_ble_eq_true rfl, Nat.le_of_ble_eq_true rfl⟩ (Nat.le_of_ble_eq_true rfl) dL_law_982 rfl (fun y u hpy => ?_)
    obtain ⟨rfl, hJ⟩ := hk9 y u hpy
    exact E.icmp_eq C dL_law_985 (tgt := 1508) (by decide) (fun _ => kk _ hJ) (fun h => absurd rfl h)
set_option maxHeartbeats 2000000 in
theorem lc_22 (C : Cx X G RL cL_law) (hw : LW X G Ln sc) (hI : INV v) (hi : 0 ≤ i ∧ i + 5 ≤ (Ln : Int)) (kk : ∀ u, INV u → E X G 137 3791 1000 u 1508 [some (vr 0), some (vr 1), some (vr 119), some (vi i)] []) : E X G 137 3791 1000 v 990 [some (vr 0), some (vr 1), some (vr 119), some (vi i)] [] := by
  have h25 := hw.2.2.2.1
  obtain ⟨P8, hM8, hk8⟩ := as_sew (G := G) hI (scI sc (i + 1)) (scI sc (i + 2))
  refine E.aload_n C dL_law_990 rfl rfl ?_
  refine E.aload_n C dL_law_991 rfl rfl ?_
  refine E.iload_n C dL_law_992 rfl rfl ?_
  refine E.iconst C dL_law_993 (by decide) ?_
  refine E.iadd C dL_law_994 (by omega) ?_
  refine E.sld C hw dL_law_995 (by omega) ?_
  refine E.aload_n C dL_law_996 rfl rfl ?_
  refine E.iload_n C dL_law_997 rfl rfl ?_
  refine E.iconst C dL_law_998 (by decide) ?_
  refine E.iadd C dL_law_999 (by omega) ?_
  refine E.sld C hw dL_law_1000 (by omega) ?_
  refine E.callA (ci := 8) (S := []) (As := [vi (scI sc (i + 1)), vi (scI sc (i + 2))]) C hw hM8 yf_X8_sew yv_X8_sew ml_L_111 rfl rfl rfl kd_1 (by decide) ⟨Nat.le_of_ble_eq_true rfl, Nat.le_of_ble_eq_true rfl⟩ ⟨Nat.le_of_ble_eq_true rfl, Nat.le_of_ble_eq_true rfl⟩ (Nat.le_of_ble_eq_true rfl) dL_law_1001 rfl (fun x w hpx => ?_)
  obtain ⟨P9, hM9, hk9⟩ := hk8 x w hpx
  refine E.aload_n C dL_law_1004 rfl rfl ?_
  refine E.aload_n C dL_law_1005 rfl rfl ?_
  refine E.iload_n C dL_law_1006 rfl rfl ?_
  refine E.iconst C dL_law_1007 (by decide) ?_
  refine E.iadd C dL_law_1008 (by omega) ?_
  refine E.sld C hw dL_law_1009 (by omega) ?_
  refine E.aload_n C dL_law_1010 rfl rfl ?_
  refine E.iload_n C dL_law_1011 rfl rfl ?_
  refine E.iconst C dL_law_1012 (by decide) ?_
  refine E.iadd C dL_law_1013 (by omega) ?_
  refine E.sld C hw dL_law_1014 (by omega) ?_
  refine E.callA (ci := 9) (S := [vi x]) (As := [vi (scI sc (i + 1)), vi (scI sc (i + 2))]) C hw hM9 yf_X9_sew yv_X9_sew ml_L_114 rfl rfl rfl kd_119 (by decide) ⟨Nat.le_of_ble_eq_true rfl, Nat.le_of_ble_eq_true rfl⟩ ⟨Nat.le_of_ble_eq_true rfl, Nat.le_of_ble_eq_true rfl⟩ (Nat.le_of_ble_eq_true rfl) dL_law_1015 rfl (fun y u hpy => ?_)
  obtain ⟨rfl, hJ⟩ := hk9 y u hpy
  exact E.icmp_eq C dL_law_1018 (tgt := 1508) (by decide) (fun _ => kk _ hJ) (fun h => absurd rfl h)
set_option maxHeartbeats 2000000 in
theorem lc_23 (C : Cx X G RL cL_law) (hw : LW X G Ln sc) (hI : INV v) (hi : 0 ≤ i ∧ i + 5 ≤ (Ln : Int)) (kk : ∀ u, INV u → E X G 137 3791 1000 u 1508 [some (vr 0), some (vr 1), some (vr 119), some (vi i)] []) : E X G 137 3791 1000 v 1023 [some (vr 0), some (vr 1), some (vr 119), some (vi i)] [] := by
  have h25 := hw.2.2.2.1
  by_cases hq : scI sc (i + 3) = 0
  · skip
    obtain ⟨P8, hM8, hk8⟩ := as_wish (G := G) hI (scI sc (i + 1)) (scI sc (i + 2)) 0 (scI sc (i + 4))
    refine E.aload_n C dL_law_1023 rfl rfl ?_
    refine E.aload_n C dL_law_1024 rfl rfl ?_
    refine E.iload_n C dL_law_1025 rfl rfl ?_
    refine E.iconst C dL_law_1026 (by decide) ?_
    refine E.iadd C dL_law_1027 (by omega) ?_
    refine E.sld C hw dL_law_1028 (by omega) ?_
    refine E.aload_n C dL_law_1029 rfl rfl ?_
    refine E.iload_n C dL_law_1030 rfl rfl ?_
    refine E.iconst C dL_law_1031 (by decide) ?_
    refine E.iadd C dL_law_1032 (by omega) ?_
    refine E.sld C hw dL_law_1033 (by omega) ?_
    refine E.aload_n C dL_law_1034 rfl rfl ?_
    refine E.iload_n C dL_law_1035 rfl rfl ?_
    refine E.iconst C dL_law_1036 (by decide) ?_
    refine E.iadd C dL_law_1037 (by omega) ?_
    refine E.sld C hw dL_law_1038 (by omega) ?_
    refine E.if_eq C dL_law_1039 (tgt := 1046) (by decide) (fun _ => ?_) (fun h => absurd hq h)
    refine E.iconst C dL_law_1046 (by decide) ?_
    refine E.aload_n C dL_law_1047 rfl rfl ?_
    refine E.iload_n C dL_law_1048 rfl rfl ?_
    refine E.iconst C dL_law_1049 (by decide) ?_
    refine E.iadd C dL_law_1050 (by omega) ?_
    refine E.sld C hw dL_law_1051 (by omega) ?_
    refine E.callA (ci := 8) (S := []) (As := [vi (scI sc (i + 1)), vi (scI sc (i + 2)), vi 0, vi (scI sc (i + 4))]) C hw hM8 yf_X8_wish yv_X8_wish ml_L_115 rfl rfl rfl kd_1 (by decide) ⟨Nat.le_of_ble_eq_true rfl, Nat.le_of_ble_eq_true rfl⟩ ⟨Nat.le_of_ble_eq_true rfl, Nat.le_of_ble_eq_true rfl⟩ (Nat.le_of_ble_eq_true rfl) dL_law_1052 rfl (fun x w hpx => ?_)
    obtain ⟨P9, hM9, hk9⟩ := hk8 x w hpx
    refine E.aload_n C dL_law_1055 rfl rfl ?_
    refine E.aload_n C dL_law_1056 rfl rfl ?_
    refine E.iload_n C dL_law_1057 rfl rfl ?_
    refine E.iconst C dL_law_1058 (by decide) ?_
    refine E.iadd C dL_law_1059 (by omega) ?_
    refine E.sld C hw dL_law_1060 (by omega) ?_
    refine E.aload_n C dL_law_1061 rfl rfl ?_
    refine E.iload_n C dL_law_1062 rfl rfl ?_
    refine E.iconst C dL_law_1063 (by decide) ?_
    refine E.iadd C dL_law_1064 (by omega) ?_
    refine E.sld C hw dL_law_1065 (by omega) ?_
    refine E.aload_n C dL_law_1066 rfl rfl ?_
    refine E.iload_n C dL_law_1067 rfl rfl ?_
    refine E.iconst C dL_law_1068 (by decide) ?_
    refine E.iadd C dL_law_1069 (by omega) ?_
    refine E.sld C hw dL_law_1070 (by omega) ?_
    refine E.if_eq C dL_law_1071 (tgt := 1078) (by decide) (fun _ => ?_) (fun h => absurd hq h)
    refine E.iconst C dL_law_1078 (by decide) ?_
    refine E.aload_n C dL_law_1079 rfl rfl ?_
    refine E.iload_n C dL_law_1080 rfl rfl ?_
    refine E.iconst C dL_law_1081 (by decide) ?_
    refine E.iadd C dL_law_1082 (by omega) ?_
    refine E.sld C hw dL_law_1083 (by omega) ?_
    refine E.callA (ci := 9) (S := [vi x]) (As := [vi (scI sc (i + 1)), vi (scI sc (i + 2)), vi 0, vi (scI sc (i + 4))]) C hw hM9 yf_X9_wish yv_X9_wish ml_L_118 rfl rfl rfl kd_119 (by decide) ⟨Nat.le_of_ble_eq_true rfl, Nat.le_of_ble_eq_true rfl⟩ ⟨Nat.le_of_ble_eq_true rfl, Nat.le_of_ble_eq_true rfl⟩ (Nat.le_of_ble_eq_true rfl) dL_law_1084 rfl (fun y u hpy => ?_)
    obtain ⟨rfl, hJ⟩ := hk9 y u hpy
    exact E.icmp_eq C dL_law_1087 (tgt := 1508) (by decide) (fun _ => kk _ hJ) (fun h => absurd rfl h)
  · skip
    obtain ⟨P8, hM8, hk8⟩ := as_wish (G := G) hI (scI sc (i + 1)) (scI sc (i + 2)) 1 (scI sc (i + 4))
    refine E.aload_n C dL_law_1023 rfl rfl ?_
    refine E.aload_n C dL_law_1024 rfl rfl ?_
    refine E.iload_n C dL_law_1025 rfl rfl ?_
    refine E.iconst C dL_law_1026 (by decide) ?_
    refine E.iadd C dL_law_1027 (by omega) ?_
    refine E.sld C hw dL_law_1028 (by omega) ?_
    refine E.aload_n C dL_law_1029 rfl rfl ?_
    refine E.iload_n C dL_law_1030 rfl rfl ?_
    refine E.iconst C dL_law_1031 (by decide) ?_
    refine E.iadd C dL_law_1032 (by omega) ?_
    refine E.sld C hw dL_law_1033 (by omega) ?_
    refine E.aload_n C dL_law_1034 rfl rfl ?_
    refine E.iload_n C dL_law_1035 rfl rfl ?_
    refine E.iconst C dL_law_1036 (by decide) ?_
    refine E.iadd C dL_law_1037 (by omega) ?_
    refine E.sld C hw dL_law_1038 (by omega) ?_
    refine E.if_eq C dL_law_1039 (tgt := 1046) (by decide) (fun h => absurd h hq) (fun _ => ?_)
    refine E.iconst C dL_law_1042 (by decide) ?_
    refine E.goto C dL_law_1043 (tgt := 1047) (by decide) ?_
    refine E.aload_n C dL_law_1047 rfl rfl ?_
    refine E.iload_n C dL_law_1048 rfl rfl ?_
    refine E.iconst C dL_law_1049 (by decide) ?_
    refine E.iadd C dL_law_1050 (by omega) ?_
    refine E.sld C hw dL_law_1051 (by omega) ?_
    refine E.callA (ci := 8) (S := []) (As := [vi (scI sc (i + 1)), vi (scI sc (i + 2)), vi 1, vi (scI sc (i + 4))]) C hw hM8 yf_X8_wish yv_X8_wish ml_L_115 rfl rfl rfl kd_1 (by decide) ⟨Nat.le_of_ble_eq_true rfl, Nat.le_of_ble_eq_true rfl⟩ ⟨Nat.le_of_ble_eq_true rfl, Nat.le_of_ble_eq_true rfl⟩ (Nat.le_of_ble_eq_true rfl) dL_law_1052 rfl (fun x w hpx => ?_)
    obtain ⟨P9, hM9, hk9⟩ := hk8 x w hpx
    refine E.aload_n C dL_law_1055 rfl rfl ?_
    refine E.aload_n C dL_law_1056 rfl rfl ?_
    refine E.iload_n C dL_law_1057 rfl rfl ?_
    refine E.iconst C dL_law_1058 (by decide) ?_
    refine E.iadd C dL_law_1059 (by omega) ?_
    refine E.sld C hw dL_law_1060 (by omega) ?_
    refine E.aload_n C dL_law_1061 rfl rfl ?_
    refine E.iload_n C dL_law_1062 rfl rfl ?_
    refine E.iconst C dL_law_1063 (by decide) ?_
    refine E.iadd C dL_law_1064 (by omega) ?_
    refine E.sld C hw dL_law_1065 (by omega) ?_
    refine E.aload_n C dL_law_1066 rfl rfl ?_
    refine E.iload_n C dL_law_1067 rfl rfl ?_
    refine E.iconst C dL_law_1068 (by decide) ?_
    refine E.iadd C dL_law_1069 (by omega) ?_
    refine E.sld C hw dL_law_1070 (by omega) ?_
    refine E.if_eq C dL_law_1071 (tgt := 1078) (by decide) (fun h => absurd h hq) (fun _ => ?_)
    refine E.iconst C dL_law_1074 (by decide) ?_
    refine E.goto C dL_law_1075 (tgt := 1079) (by decide) ?_
    refine E.aload_n C dL_law_1079 rfl rfl ?_
    refine E.iload_n C dL_law_1080 rfl rfl ?_
    refine E.iconst C dL_law_1081 (by decide) ?_
    refine E.iadd C dL_law_1082 (by omega) ?_
    refine E.sld C hw dL_law_1083 (by omega) ?_
    refine E.callA (ci := 9) (S := [vi x]) (As := [vi (scI sc (i + 1)), vi (scI sc (i + 2)), vi 1, vi (scI sc (i + 4))]) C hw hM9 yf_X9_wish yv_X9_wish ml_L_118 rfl rfl rfl kd_119 (by decide) ⟨Nat.le_of_ble_eq_true rfl, Nat.le_of_ble_eq_true rfl⟩ ⟨Nat.le_of_ble_eq_true rfl, Nat.le_of_ble_eq_true rfl⟩ (Nat.le_of_ble_eq_true rfl) dL_law_1084 rfl (fun y u hpy => ?_)
    obtain ⟨rfl, hJ⟩ := hk9 y u hpy
    exact E.icmp_eq C dL_law_1087 (tgt := 1508) (by decide) (fun _ => kk _ hJ) (fun h => absurd rfl h)
set_option maxHeartbeats 2000000 in
theorem lc_24 (C : Cx X G RL cL_law) (hw : LW X G Ln sc) (hI : INV v) (hi : 0 ≤ i ∧ i + 5 ≤ (Ln : Int)) (kk : ∀ u, INV u → E X G 137 3791 1000 u 1508 [some (vr 0), some (vr 1), some (vr 119), some (vi i)] []) : E X G 137 3791 1000 v 1092 [some (vr 0), some (vr 1), some (vr 119), some (vi i)] [] := by
  have h25 := hw.2.2.2.1
  obtain ⟨P8, hM8, hk8⟩ := as_swap (G := G) hI 
  refine E.aload_n C dL_law_1092 rfl rfl ?_
  refine E.callA (ci := 8) (S := []) (As := []) C hw hM8 yf_X8_swap yv_X8_swap ml_L_119 rfl rfl rfl kd_1 (by decide) ⟨Nat.le_of_ble_eq_true rfl, Nat.le_of_ble_eq_true rfl⟩ ⟨Nat.le_of_ble_eq_true rfl, Nat.le_of_ble_eq_true rfl⟩ (Nat.le_of_ble_eq_true rfl) dL_law_1093 rfl (fun x w hpx => ?_)
  obtain ⟨P9, hM9, hk9⟩ := hk8 x w hpx
  refine E.aload_n C dL_law_1096 rfl rfl ?_
  refine E.callA (ci := 9) (S := [vi x]) (As := []) C hw hM9 yf_X9_swap yv_X9_swap ml_L_122 rfl rfl rfl kd_119 (by decide) ⟨Nat.le_of_ble_eq_true rfl, Nat.le_of_ble_eq_true rfl⟩ ⟨Nat.le_of_ble_eq_true rfl, Nat.le_of_ble_eq_true rfl⟩ (Nat.le_of_ble_eq_true rfl) dL_law_1097 rfl (fun y u hpy => ?_)
  obtain ⟨rfl, hJ⟩ := hk9 y u hpy
  exact E.icmp_eq C dL_law_1100 (tgt := 1508) (by decide) (fun _ => kk _ hJ) (fun h => absurd rfl h)
set_option maxHeartbeats 2000000 in
theorem lc_25 (C : Cx X G RL cL_law) (hw : LW X G Ln sc) (hI : INV v) (hi : 0 ≤ i ∧ i + 5 ≤ (Ln : Int)) (kk : ∀ u, INV u → E X G 137 3791 1000 u 1508 [some (vr 0), some (vr 1), some (vr 119), some (vi i)] []) : E X G 137 3791 1000 v 1105 [some (vr 0), some (vr 1), some (vr 119), some (vi i)] [] := by
  have h25 := hw.2.2.2.1
  obtain ⟨P8, hM8, hk8⟩ := as_settle (G := G) hI 
  refine E.aload_n C dL_law_1105 rfl rfl ?_
  refine E.callA (ci := 8) (S := []) (As := []) C hw hM8 yf_X8_settle yv_X8_settle ml_L_123 rfl rfl rfl kd_1 (by decide) ⟨Nat.le_of_ble_eq_true rfl, Nat.le_of_ble_eq_true rfl⟩ ⟨Nat.le_of_ble_eq_true rfl, Nat.le_of_ble_eq_true rfl⟩ (Nat.le_of_ble_eq_true rfl) dL_law_1106 rfl (fun x w hpx => ?_)
  obtain ⟨P9, hM9, hk9⟩ := hk8 x w hpx
  refine E.aload_n C dL_law_1109 rfl rfl ?_
  refine E.callA (ci := 9) (S := [vi x]) (As := []) C hw hM9 yf_X9_settle yv_X9_settle ml_L_126 rfl rfl rfl kd_119 (by decide) ⟨Nat.le_of_ble_eq_true rfl, Nat.le_of_ble_eq_true rfl⟩ ⟨Nat.le_of_ble_eq_true rfl, Nat.le_of_ble_eq_true rfl⟩ (Nat.le_of_ble_eq_true rfl) dL_law_1110 rfl (fun y u hpy => ?_)
  obtain ⟨rfl, hJ⟩ := hk9 y u hpy
  exact E.icmp_eq C dL_law_1113 (tgt := 1508) (by decide) (fun _ => kk _ hJ) (fun h => absurd rfl h)
set_option maxHeartbeats 2000000 in
theorem lc_26 (C : Cx X G RL cL_law) (hw : LW X G Ln sc) (hI : INV v) (hi : 0 ≤ i ∧ i + 5 ≤ (Ln : Int)) (kk : ∀ u, INV u → E X G 137 3791 1000 u 1508 [some (vr 0), some (vr 1), some (vr 119), some (vi i)] []) : E X G 137 3791 1000 v 1118 [some (vr 0), some (vr 1), some (vr 119), some (vi i)] [] := by
  have h25 := hw.2.2.2.1
  obtain ⟨P8, hM8, hk8⟩ := as_odds (G := G) hI (scI sc (i + 1)) (scI sc (i + 2))
  refine E.aload_n C dL_law_1118 rfl rfl ?_
  refine E.aload_n C dL_law_1119 rfl rfl ?_
  refine E.iload_n C dL_law_1120 rfl rfl ?_
  refine E.iconst C dL_law_1121 (by decide) ?_
  refine E.iadd C dL_law_1122 (by omega) ?_
  refine E.sld C hw dL_law_1123 (by omega) ?_
  refine E.aload_n C dL_law_1124 rfl rfl ?_
  refine E.iload_n C dL_law_1125 rfl rfl ?_
  refine E.iconst C dL_law_1126 (by decide) ?_
  refine E.iadd C dL_law_1127 (by omega) ?_
  refine E.sld C hw dL_law_1128 (by omega) ?_
  refine E.callAl (ci := 8) (S := []) (As := [vi (scI sc (i + 1)), vi (scI sc (i + 2))]) C hw hM8 yf_X8_odds yv_X8_odds ml_L_127 rfl rfl rfl kd_1 (by decide) ⟨Nat.le_of_ble_eq_true rfl, Nat.le_of_ble_eq_true rfl⟩ ⟨Nat.le_of_ble_eq_true rfl, Nat.le_of_ble_eq_true rfl⟩ (Nat.le_of_ble_eq_true rfl) dL_law_1129 rfl (fun x w hpx => ?_)
  obtain ⟨P9, hM9, hk9⟩ := hk8 x w hpx
  refine E.aload_n C dL_law_1132 rfl rfl ?_
  refine E.aload_n C dL_law_1133 rfl rfl ?_
  refine E.iload_n C dL_law_1134 rfl rfl ?_
  refine E.iconst C dL_law_1135 (by decide) ?_
  refine E.iadd C dL_law_1136 (by omega) ?_
  refine E.sld C hw dL_law_1137 (by omega) ?_
  refine E.aload_n C dL_law_1138 rfl rfl ?_
  refine E.iload_n C dL_law_1139 rfl rfl ?_
  refine E.iconst C dL_law_1140 (by decide) ?_
  refine E.iadd C dL_law_1141 (by omega) ?_
  refine E.sld C hw dL_law_1142 (by omega) ?_
  refine E.callAl (ci := 9) (S := [vl x]) (As := [vi (scI sc (i + 1)), vi (scI sc (i + 2))]) C hw hM9 yf_X9_odds yv_X9_odds ml_L_131 rfl rfl rfl kd_119 (by decide) ⟨Nat.le_of_ble_eq_true rfl, Nat.le_of_ble_eq_true rfl⟩ ⟨Nat.le_of_ble_eq_true rfl, Nat.le_of_ble_eq_true rfl⟩ (Nat.le_of_ble_eq_true rfl) dL_law_1143 rfl (fun y u hpy => ?_)
  obtain ⟨rfl, hJ⟩ := hk9 y u hpy
  refine E.lcmp C dL_law_1146 ?_
  exact E.if_eq C dL_law_1147 (tgt := 1508) (by decide) (fun _ => kk _ hJ) (fun h => absurd (lcmpv_eq.mpr rfl) h)
set_option maxHeartbeats 2000000 in
theorem lc_27 (C : Cx X G RL cL_law) (hw : LW X G Ln sc) (hI : INV v) (hi : 0 ≤ i ∧ i + 5 ≤ (Ln : Int)) (kk : ∀ u, INV u → E X G 137 3791 1000 u 1508 [some (vr 0), some (vr 1), some (vr 119), some (vi i)] []) : E X G 137 3791 1000 v 1152 [some (vr 0), some (vr 1), some (vr 119), some (vi i)] [] := by
  have h25 := hw.2.2.2.1
  obtain ⟨P8, hM8, hk8⟩ := as_mark (G := G) hI (scI sc (i + 1))
  refine E.aload_n C dL_law_1152 rfl rfl ?_
  refine E.aload_n C dL_law_1153 rfl rfl ?_
  refine E.iload_n C dL_law_1154 rfl rfl ?_
  refine E.iconst C dL_law_1155 (by decide) ?_
  refine E.iadd C dL_law_1156 (by omega) ?_
  refine E.sld C hw dL_law_1157 (by omega) ?_
  refine E.callA (ci := 8) (S := []) (As := [vi (scI sc (i + 1))]) C hw hM8 yf_X8_mark yv_X8_mark ml_L_132 rfl rfl rfl kd_1 (by decide) ⟨Nat.le_of_ble_eq_true rfl, Nat.le_of_ble_eq_true rfl⟩ ⟨Nat.le_of_ble_eq_true rfl, Nat.le_of_ble_eq_true rfl⟩ (Nat.le_of_ble_eq_true rfl) dL_law_1158 rfl (fun x w hpx => ?_)
  obtain ⟨P9, hM9, hk9⟩ := hk8 x w hpx
  refine E.aload_n C dL_law_1161 rfl rfl ?_
  refine E.aload_n C dL_law_1162 rfl rfl ?_
  refine E.iload_n C dL_law_1163 rfl rfl ?_
  refine E.iconst C dL_law_1164 (by decide) ?_
  refine E.iadd C dL_law_1165 (by omega) ?_
  refine E.sld C hw dL_law_1166 (by omega) ?_
  refine E.callA (ci := 9) (S := [vi x]) (As := [vi (scI sc (i + 1))]) C hw hM9 yf_X9_mark yv_X9_mark ml_L_135 rfl rfl rfl kd_119 (by decide) ⟨Nat.le_of_ble_eq_true rfl, Nat.le_of_ble_eq_true rfl⟩ ⟨Nat.le_of_ble_eq_true rfl, Nat.le_of_ble_eq_true rfl⟩ (Nat.le_of_ble_eq_true rfl) dL_law_1167 rfl (fun y u hpy => ?_)
  obtain ⟨rfl, hJ⟩ := hk9 y u hpy
  exact E.icmp_eq C dL_law_1170 (tgt := 1508) (by decide) (fun _ => kk _ hJ) (fun h => absurd rfl h)
set_option maxHeartbeats 2000000 in
theorem lc_28 (C : Cx X G RL cL_law) (hw : LW X G Ln sc) (hI : INV v) (hi : 0 ≤ i ∧ i + 5 ≤ (Ln : Int)) (kk : ∀ u, INV u → E X G 137 3791 1000 u 1508 [some (vr 0), some (vr 1), some (vr 119), some (vi i)] []) : E X G 137 3791 1000 v 1175 [some (vr 0), some (vr 1), some (vr 119), some (vi i)] [] := by
  have h25 := hw.2.2.2.1
  obtain ⟨P8, hM8, hk8⟩ := as_unmark (G := G) hI (scI sc (i + 1))
  refine E.aload_n C dL_law_1175 rfl rfl ?_
  refine E.aload_n C dL_law_1176 rfl rfl ?_
  refine E.iload_n C dL_law_1177 rfl rfl ?_
  refine E.iconst C dL_law_1178 (by decide) ?_
  refine E.iadd C dL_law_1179 (by omega) ?_
  refine E.sld C hw dL_law_1180 (by omega) ?_
  refine E.callA (ci := 8) (S := []) (As := [vi (scI sc (i + 1))]) C hw hM8 yf_X8_unmark yv_X8_unmark ml_L_136 rfl rfl rfl kd_1 (by decide) ⟨Nat.le_of_ble_eq_true rfl, Nat.le_of_ble_eq_true rfl⟩ ⟨Nat.le_of_ble_eq_true rfl, Nat.le_of_ble_eq_true rfl⟩ (Nat.le_of_ble_eq_true rfl) dL_law_1181 rfl (fun x w hpx => ?_)
  obtain ⟨P9, hM9, hk9⟩ := hk8 x w hpx
  refine E.aload_n C dL_law_1184 rfl rfl ?_
  refine E.aload_n C dL_law_1185 rfl rfl ?_
  refine E.iload_n C dL_law_1186 rfl rfl ?_
  refine E.iconst C dL_law_1187 (by decide) ?_
  refine E.iadd C dL_law_1188 (by omega) ?_
  refine E.sld C hw dL_law_1189 (by omega) ?_
  refine E.callA (ci := 9) (S := [vi x]) (As := [vi (scI sc (i + 1))]) C hw hM9 yf_X9_unmark yv_X9_unmark ml_L_139 rfl rfl rfl kd_119 (by decide) ⟨Nat.le_of_ble_eq_true rfl, Nat.le_of_ble_eq_true rfl⟩ ⟨Nat.le_of_ble_eq_true rfl, Nat.le_of_ble_eq_true rfl⟩ (Nat.le_of_ble_eq_true rfl) dL_law_1190 rfl (fun y u hpy => ?_)
  obtain ⟨rfl, hJ⟩ := hk9 y u hpy
  exact E.icmp_eq C dL_law_1193 (tgt := 1508) (by decide) (fun _ => kk _ hJ) (fun h => absurd rfl h)
set_option maxHeartbeats 2000000 in
theorem lc_29 (C : Cx X G RL cL_law) (hw : LW X G Ln sc) (hI : INV v) (hi : 0 ≤ i ∧ i + 5 ≤ (Ln : Int)) (kk : ∀ u, INV u → E X G 137 3791 1000 u 1508 [some (vr 0), some (vr 1), some (vr 119), some (vi i)] []) : E X G 137 3791 1000 v 1198 [some (vr 0), some (vr 1), some (vr 119), some (vi i)] [] := by
  have h25 := hw.2.2.2.1
  obtain ⟨P8, hM8, hk8⟩ := as_rows (G := G) hI (scI sc (i + 1))
  refine E.aload_n C dL_law_1198 rfl rfl ?_
  refine E.aload_n C dL_law_1199 rfl rfl ?_
  refine E.iload_n C dL_law_1200 rfl rfl ?_
  refine E.iconst C dL_law_1201 (by decide) ?_
  refine E.iadd C dL_law_1202 (by omega) ?_
  refine E.sld C hw dL_law_1203 (by omega) ?_
  refine E.callA (ci := 8) (S := []) (As := [vi (scI sc (i + 1))]) C hw hM8 yf_X8_rows yv_X8_rows ml_L_140 rfl rfl rfl kd_1 (by decide) ⟨Nat.le_of_ble_eq_true rfl, Nat.le_of_ble_eq_true rfl⟩ ⟨Nat.le_of_ble_eq_true rfl, Nat.le_of_ble_eq_true rfl⟩ (Nat.le_of_ble_eq_true rfl) dL_law_1204 rfl (fun x w hpx => ?_)
  obtain ⟨P9, hM9, hk9⟩ := hk8 x w hpx
  refine E.aload_n C dL_law_1207 rfl rfl ?_
  refine E.aload_n C dL_law_1208 rfl rfl ?_
  refine E.iload_n C dL_law_1209 rfl rfl ?_
  refine E.iconst C dL_law_1210 (by decide) ?_
  refine E.iadd C dL_law_1211 (by omega) ?_
  refine E.sld C hw dL_law_1212 (by omega) ?_
  refine E.callA (ci := 9) (S := [vi x]) (As := [vi (scI sc (i + 1))]) C hw hM9 yf_X9_rows yv_X9_rows ml_L_143 rfl rfl rfl kd_119 (by decide) ⟨Nat.le_of_ble_eq_true rfl, Nat.le_of_ble_eq_true rfl⟩ ⟨Nat.le_of_ble_eq_true rfl, Nat.le_of_ble_eq_true rfl⟩ (Nat.le_of_ble_eq_true rfl) dL_law_1213 rfl (fun y u hpy => ?_)
  obtain ⟨rfl, hJ⟩ := hk9 y u hpy
  exact E.icmp_eq C dL_law_1216 (tgt := 1508) (by decide) (fun _ => kk _ hJ) (fun h => absurd rfl h)
set_option maxHeartbeats 2000000 in
theorem lc_30 (C : Cx X G RL cL_law) (hw : LW X G Ln sc) (hI : INV v) (hi : 0 ≤ i ∧ i + 5 ≤ (Ln : Int)) (kk : ∀ u, INV u → E X G 137 3791 1000 u 1508 [some (vr 0), some (vr 1), some (vr 119), some (vi i)] []) : E X G 137 3791 1000 v 1221 [some (vr 0), some (vr 1), some (vr 119), some (vi i)] [] := by
  have h25 := hw.2.2.2.1
  obtain ⟨P8, hM8, hk8⟩ := as_whose (G := G) hI (scI sc (i + 1))
  refine E.aload_n C dL_law_1221 rfl rfl ?_
  refine E.aload_n C dL_law_1222 rfl rfl ?_
  refine E.iload_n C dL_law_1223 rfl rfl ?_
  refine E.iconst C dL_law_1224 (by decide) ?_
  refine E.iadd C dL_law_1225 (by omega) ?_
  refine E.sld C hw dL_law_1226 (by omega) ?_
  refine E.callA (ci := 8) (S := []) (As := [vi (scI sc (i + 1))]) C hw hM8 yf_X8_whose yv_X8_whose ml_L_144 rfl rfl rfl kd_1 (by decide) ⟨Nat.le_of_ble_eq_true rfl, Nat.le_of_ble_eq_true rfl⟩ ⟨Nat.le_of_ble_eq_true rfl, Nat.le_of_ble_eq_true rfl⟩ (Nat.le_of_ble_eq_true rfl) dL_law_1227 rfl (fun x w hpx => ?_)
  obtain ⟨P9, hM9, hk9⟩ := hk8 x w hpx
  refine E.aload_n C dL_law_1230 rfl rfl ?_
  refine E.aload_n C dL_law_1231 rfl rfl ?_
  refine E.iload_n C dL_law_1232 rfl rfl ?_
  refine E.iconst C dL_law_1233 (by decide) ?_
  refine E.iadd C dL_law_1234 (by omega) ?_
  refine E.sld C hw dL_law_1235 (by omega) ?_
  refine E.callA (ci := 9) (S := [vi x]) (As := [vi (scI sc (i + 1))]) C hw hM9 yf_X9_whose yv_X9_whose ml_L_147 rfl rfl rfl kd_119 (by decide) ⟨Nat.le_of_ble_eq_true rfl, Nat.le_of_ble_eq_true rfl⟩ ⟨Nat.le_of_ble_eq_true rfl, Nat.le_of_ble_eq_true rfl⟩ (Nat.le_of_ble_eq_true rfl) dL_law_1236 rfl (fun y u hpy => ?_)
  obtain ⟨rfl, hJ⟩ := hk9 y u hpy
  exact E.icmp_eq C dL_law_1239 (tgt := 1508) (by decide) (fun _ => kk _ hJ) (fun h => absurd rfl h)
set_option maxHeartbeats 2000000 in
theorem lc_31 (C : Cx X G RL cL_law) (hw : LW X G Ln sc) (hI : INV v) (hi : 0 ≤ i ∧ i + 5 ≤ (Ln : Int)) (kk : ∀ u, INV u → E X G 137 3791 1000 u 1508 [some (vr 0), some (vr 1), some (vr 119), some (vi i)] []) : E X G 137 3791 1000 v 1244 [some (vr 0), some (vr 1), some (vr 119), some (vi i)] [] := by
  have h25 := hw.2.2.2.1
  obtain ⟨P8, hM8, hk8⟩ := as_lend (G := G) hI (scI sc (i + 1)) (scI sc (i + 2)) (scI sc (i + 3))
  refine E.aload_n C dL_law_1244 rfl rfl ?_
  refine E.aload_n C dL_law_1245 rfl rfl ?_
  refine E.iload_n C dL_law_1246 rfl rfl ?_
  refine E.iconst C dL_law_1247 (by decide) ?_
  refine E.iadd C dL_law_1248 (by omega) ?_
  refine E.sld C hw dL_law_1249 (by omega) ?_
  refine E.aload_n C dL_law_1250 rfl rfl ?_
  refine E.iload_n C dL_law_1251 rfl rfl ?_
  refine E.iconst C dL_law_1252 (by decide) ?_
  refine E.iadd C dL_law_1253 (by omega) ?_
  refine E.sld C hw dL_law_1254 (by omega) ?_
  refine E.aload_n C dL_law_1255 rfl rfl ?_
  refine E.iload_n C dL_law_1256 rfl rfl ?_
  refine E.iconst C dL_law_1257 (by decide) ?_
  refine E.iadd C dL_law_1258 (by omega) ?_
  refine E.sld C hw dL_law_1259 (by omega) ?_
  refine E.callA (ci := 8) (S := []) (As := [vi (scI sc (i + 1)), vi (scI sc (i + 2)), vi (scI sc (i + 3))]) C hw hM8 yf_X8_lend yv_X8_lend ml_L_148 rfl rfl rfl kd_1 (by decide) ⟨Nat.le_of_ble_eq_true rfl, Nat.le_of_ble_eq_true rfl⟩ ⟨Nat.le_of_ble_eq_true rfl, Nat.le_of_ble_eq_true rfl⟩ (Nat.le_of_ble_eq_true rfl) dL_law_1260 rfl (fun x w hpx => ?_)
  obtain ⟨P9, hM9, hk9⟩ := hk8 x w hpx
  refine E.aload_n C dL_law_1263 rfl rfl ?_
  refine E.aload_n C dL_law_1264 rfl rfl ?_
  refine E.iload_n C dL_law_1265 rfl rfl ?_
  refine E.iconst C dL_law_1266 (by decide) ?_
  refine E.iadd C dL_law_1267 (by omega) ?_
  refine E.sld C hw dL_law_1268 (by omega) ?_
  refine E.aload_n C dL_law_1269 rfl rfl ?_
  refine E.iload_n C dL_law_1270 rfl rfl ?_
  refine E.iconst C dL_law_1271 (by decide) ?_
  refine E.iadd C dL_law_1272 (by omega) ?_
  refine E.sld C hw dL_law_1273 (by omega) ?_
  refine E.aload_n C dL_law_1274 rfl rfl ?_
  refine E.iload_n C dL_law_1275 rfl rfl ?_
  refine E.iconst C dL_law_1276 (by decide) ?_
  refine E.iadd C dL_law_1277 (by omega) ?_
  refine E.sld C hw dL_law_1278 (by omega) ?_
  refine E.callA (ci := 9) (S := [vi x]) (As := [vi (scI sc (i + 1)), vi (scI sc (i + 2)), vi (scI sc (i + 3))]) C hw hM9 yf_X9_lend yv_X9_lend ml_L_151 rfl rfl rfl kd_119 (by decide) ⟨Nat.le_of_ble_eq_true rfl, Nat.le_of_ble_eq_true rfl⟩ ⟨Nat.le_of_ble_eq_true rfl, Nat.le_of_ble_eq_true rfl⟩ (Nat.le_of_ble_eq_true rfl) dL_law_1279 rfl (fun y u hpy => ?_)
  obtain ⟨rfl, hJ⟩ := hk9 y u hpy
  exact E.icmp_eq C dL_law_1282 (tgt := 1508) (by decide) (fun _ => kk _ hJ) (fun h => absurd rfl h)
set_option maxHeartbeats 2000000 in
theorem lc_32 (C : Cx X G RL cL_law) (hw : LW X G Ln sc) (hI : INV v) (hi : 0 ≤ i ∧ i + 5 ≤ (Ln : Int)) (kk : ∀ u, INV u → E X G 137 3791 1000 u 1508 [some (vr 0), some (vr 1), some (vr 119), some (vi i)] []) : E X G 137 3791 1000 v 1287 [some (vr 0), some (vr 1), some (vr 119), some (vi i)] [] := by
  have h25 := hw.2.2.2.1
  obtain ⟨P8, hM8, hk8⟩ := as_keep (G := G) hI (scI sc (i + 1))
  refine E.aload_n C dL_law_1287 rfl rfl ?_
  refine E.aload_n C dL_law_1288 rfl rfl ?_
  refine E.iload_n C dL_law_1289 rfl rfl ?_
  refine E.iconst C dL_law_1290 (by decide) ?_
  refine E.iadd C dL_law_1291 (by omega) ?_
  refine E.sld C hw dL_law_1292 (by omega) ?_
  refine E.callA (ci := 8) (S := []) (As := [vi (scI sc (i + 1))]) C hw hM8 yf_X8_keep yv_X8_keep ml_L_152 rfl rfl rfl kd_1 (by decide) ⟨Nat.le_of_ble_eq_true rfl, Nat.le_of_ble_eq_true rfl⟩ ⟨Nat.le_of_ble_eq_true rfl, Nat.le_of_ble_eq_true rfl⟩ (Nat.le_of_ble_eq_true rfl) dL_law_1293 rfl (fun x w hpx => ?_)
  obtain ⟨P9, hM9, hk9⟩ := hk8 x w hpx
  refine E.aload_n C dL_law_1296 rfl rfl ?_
  refine E.aload_n C dL_law_1297 rfl rfl ?_
  refine E.iload_n C dL_law_1298 rfl rfl ?_
  refine E.iconst C dL_law_1299 (by decide) ?_
  refine E.iadd C dL_law_1300 (by omega) ?_
  refine E.sld C hw dL_law_1301 (by omega) ?_
  refine E.callA (ci := 9) (S := [vi x]) (As := [vi (scI sc (i + 1))]) C hw hM9 yf_X9_keep yv_X9_keep ml_L_155 rfl rfl rfl kd_119 (by decide) ⟨Nat.le_of_ble_eq_true rfl, Nat.le_of_ble_eq_true rfl⟩ ⟨Nat.le_of_ble_eq_true rfl, Nat.le_of_ble_eq_true rfl⟩ (Nat.le_of_ble_eq_true rfl) dL_law_1302 rfl (fun y u hpy => ?_)
  obtain ⟨rfl, hJ⟩ := hk9 y u hpy
  exact E.icmp_eq C dL_law_1305 (tgt := 1508) (by decide) (fun _ => kk _ hJ) (fun h => absurd rfl h)
set_option maxHeartbeats 2000000 in
theorem lc_33 (C : Cx X G RL cL_law) (hw : LW X G Ln sc) (hI : INV v) (hi : 0 ≤ i ∧ i + 5 ≤ (Ln : Int)) (kk : ∀ u, INV u → E X G 137 3791 1000 u 1508 [some (vr 0), some (vr 1), some (vr 119), some (vi i)] []) : E X G 137 3791 1000 v 1310 [some (vr 0), some (vr 1), some (vr 119), some (vi i)] [] := by
  have h25 := hw.2.2.2.1
  obtain ⟨P8, hM8, hk8⟩ := as_back (G := G) hI (scI sc (i + 1))
  refine E.aload_n C dL_law_1310 rfl rfl ?_
  refine E.aload_n C dL_law_1311 rfl rfl ?_
  refine E.iload_n C dL_law_1312 rfl rfl ?_
  refine E.iconst C dL_law_1313 (by decide) ?_
  refine E.iadd C dL_law_1314 (by omega) ?_
  refine E.sld C hw dL_law_1315 (by omega) ?_
  refine E.callA (ci := 8) (S := []) (As := [vi (scI sc (i + 1))]) C hw hM8 yf_X8_back yv_X8_back ml_L_156 rfl rfl rfl kd_1 (by decide) ⟨Nat.le_of_ble_eq_true rfl, Nat.le_of_ble_eq_true rfl⟩ ⟨Nat.le_of_ble_eq_true rfl, Nat.le_of_ble_eq_true rfl⟩ (Nat.le_of_ble_eq_true rfl) dL_law_1316 rfl (fun x w hpx => ?_)
  obtain ⟨P9, hM9, hk9⟩ := hk8 x w hpx
  refine E.aload_n C dL_law_1319 rfl rfl ?_
  refine E.aload_n C dL_law_1320 rfl rfl ?_
  refine E.iload_n C dL_law_1321 rfl rfl ?_
  refine E.iconst C dL_law_1322 (by decide) ?_
  refine E.iadd C dL_law_1323 (by omega) ?_
  refine E.sld C hw dL_law_1324 (by omega) ?_
  refine E.callA (ci := 9) (S := [vi x]) (As := [vi (scI sc (i + 1))]) C hw hM9 yf_X9_back yv_X9_back ml_L_159 rfl rfl rfl kd_119 (by decide) ⟨Nat.le_of_ble_eq_true rfl, Nat.le_of_ble_eq_true rfl⟩ ⟨Nat.le_of_ble_eq_true rfl, Nat.le_of_ble_eq_true rfl⟩ (Nat.le_of_ble_eq_true rfl) dL_law_1325 rfl (fun y u hpy => ?_)
  obtain ⟨rfl, hJ⟩ := hk9 y u hpy
  exact E.icmp_eq C dL_law_1328 (tgt := 1508) (by decide) (fun _ => kk _ hJ) (fun h => absurd rfl h)
set_option maxHeartbeats 2000000 in
theorem lc_34 (C : Cx X G RL cL_law) (hw : LW X G Ln sc) (hI : INV v) (hi : 0 ≤ i ∧ i + 5 ≤ (Ln : Int)) (kk : ∀ u, INV u → E X G 137 3791 1000 u 1508 [some (vr 0), some (vr 1), some (vr 119), some (vi i)] []) : E X G 137 3791 1000 v 1333 [some (vr 0), some (vr 1), some (vr 119), some (vi i)] [] := by
  have h25 := hw.2.2.2.1
  obtain ⟨P8, hM8, hk8⟩ := as_sheet (G := G) hI (scI sc (i + 1)) (scI sc (i + 2)) (scI sc (i + 3))
  refine E.aload_n C dL_law_1333 rfl rfl ?_
  refine E.aload_n C dL_law_1334 rfl rfl ?_
  refine E.iload_n C dL_law_1335 rfl rfl ?_
  refine E.iconst C dL_law_1336 (by decide) ?_
  refine E.iadd C dL_law_1337 (by omega) ?_
  refine E.sld C hw dL_law_1338 (by omega) ?_
  refine E.aload_n C dL_law_1339 rfl rfl ?_
  refine E.iload_n C dL_law_1340 rfl rfl ?_
  refine E.iconst C dL_law_1341 (by decide) ?_
  refine E.iadd C dL_law_1342 (by omega) ?_
  refine E.sld C hw dL_law_1343 (by omega) ?_
  refine E.aload_n C dL_law_1344 rfl rfl ?_
  refine E.iload_n C dL_law_1345 rfl rfl ?_
  refine E.iconst C dL_law_1346 (by decide) ?_
  refine E.iadd C dL_law_1347 (by omega) ?_
  refine E.sld C hw dL_law_1348 (by omega) ?_
  refine E.callA (ci := 8) (S := []) (As := [vi (scI sc (i + 1)), vi (scI sc (i + 2)), vi (scI sc (i + 3))]) C hw hM8 yf_X8_sheet yv_X8_sheet ml_L_160 rfl rfl rfl kd_1 (by decide) ⟨Nat.le_of_ble_eq_true rfl, Nat.le_of_ble_eq_true rfl⟩ ⟨Nat.le_of_ble_eq_true rfl, Nat.le_of_ble_eq_true rfl⟩ (Nat.le_of_ble_eq_true rfl) dL_law_1349 rfl (fun x w hpx => ?_)
  obtain ⟨P9, hM9, hk9⟩ := hk8 x w hpx
  refine E.aload_n C dL_law_1352 rfl rfl ?_
  refine E.aload_n C dL_law_1353 rfl rfl ?_
  refine E.iload_n C dL_law_1354 rfl rfl ?_
  refine E.iconst C dL_law_1355 (by decide) ?_
  refine E.iadd C dL_law_1356 (by omega) ?_
  refine E.sld C hw dL_law_1357 (by omega) ?_
  refine E.aload_n C dL_law_1358 rfl rfl ?_
  refine E.iload_n C dL_law_1359 rfl rfl ?_
  refine E.iconst C dL_law_1360 (by decide) ?_
  refine E.iadd C dL_law_1361 (by omega) ?_
  refine E.sld C hw dL_law_1362 (by omega) ?_
  refine E.aload_n C dL_law_1363 rfl rfl ?_
  refine E.iload_n C dL_law_1364 rfl rfl ?_
  refine E.iconst C dL_law_1365 (by decide) ?_
  refine E.iadd C dL_law_1366 (by omega) ?_
  refine E.sld C hw dL_law_1367 (by omega) ?_
  refine E.callA (ci := 9) (S := [vi x]) (As := [vi (scI sc (i + 1)), vi (scI sc (i + 2)), vi (scI sc (i + 3))]) C hw hM9 yf_X9_sheet yv_X9_sheet ml_L_163 rfl rfl rfl kd_119 (by decide) ⟨Nat.le_of_ble_eq_true rfl, Nat.le_of_ble_eq_true rfl⟩ ⟨Nat.le_of_ble_eq_true rfl, Nat.le_of_ble_eq_true rfl⟩ (Nat.le_of_ble_eq_true rfl) dL_law_1368 rfl (fun y u hpy => ?_)
  obtain ⟨rfl, hJ⟩ := hk9 y u hpy
  exact E.icmp_eq C dL_law_1371 (tgt := 1508) (by decide) (fun _ => kk _ hJ) (fun h => absurd rfl h)
set_option maxHeartbeats 2000000 in
theorem lc_35 (C : Cx X G RL cL_law) (hw : LW X G Ln sc) (hI : INV v) (hi : 0 ≤ i ∧ i + 5 ≤ (Ln : Int)) (kk : ∀ u, INV u → E X G 137 3791 1000 u 1508 [some (vr 0), some (vr 1), some (vr 119), some (vi i)] []) : E X G 137 3791 1000 v 1376 [some (vr 0), some (vr 1), some (vr 119), some (vi i)] [] := by
  have h25 := hw.2.2.2.1
  obtain ⟨P8, hM8, hk8⟩ := as_lay (G := G) hI (scI sc (i + 1)) (scI sc (i + 2)) (scI sc (i + 3))
  refine E.aload_n C dL_law_1376 rfl rfl ?_
  refine E.aload_n C dL_law_1377 rfl rfl ?_
  refine E.iload_n C dL_law_1378 rfl rfl ?_
  refine E.iconst C dL_law_1379 (by decide) ?_
  refine E.iadd C dL_law_1380 (by omega) ?_
  refine E.sld C hw dL_law_1381 (by omega) ?_
  refine E.aload_n C dL_law_1382 rfl rfl ?_
  refine E.iload_n C dL_law_1383 rfl rfl ?_
  refine E.iconst C dL_law_1384 (by decide) ?_
  refine E.iadd C dL_law_1385 (by omega) ?_
  refine E.sld C hw dL_law_1386 (by omega) ?_
  refine E.aload_n C dL_law_1387 rfl rfl ?_
  refine E.iload_n C dL_law_1388 rfl rfl ?_
  refine E.iconst C dL_law_1389 (by decide) ?_
  refine E.iadd C dL_law_1390 (by omega) ?_
  refine E.sld C hw dL_law_1391 (by omega) ?_
  refine E.callA (ci := 8) (S := []) (As := [vi (scI sc (i + 1)), vi (scI sc (i + 2)), vi (scI sc (i + 3))]) C hw hM8 yf_X8_lay yv_X8_lay ml_L_164 rfl rfl rfl kd_1 (by decide) ⟨Nat.le_of_ble_eq_true rfl, Nat.le_of_ble_eq_true rfl⟩ ⟨Nat.le_of_ble_eq_true rfl, Nat.le_of_ble_eq_true rfl⟩ (Nat.le_of_ble_eq_true rfl) dL_law_1392 rfl (fun x w hpx => ?_)
  obtain ⟨P9, hM9, hk9⟩ := hk8 x w hpx
  refine E.aload_n C dL_law_1395 rfl rfl ?_
  refine E.aload_n C dL_law_1396 rfl rfl ?_
  refine E.iload_n C dL_law_1397 rfl rfl ?_
  refine E.iconst C dL_law_1398 (by decide) ?_
  refine E.iadd C dL_law_1399 (by omega) ?_
  refine E.sld C hw dL_law_1400 (by omega) ?_
  refine E.aload_n C dL_law_1401 rfl rfl ?_
  refine E.iload_n C dL_law_1402 rfl rfl ?_
  refine E.iconst C dL_law_1403 (by decide) ?_
  refine E.iadd C dL_law_1404 (by omega) ?_
  refine E.sld C hw dL_law_1405 (by omega) ?_
  refine E.aload_n C dL_law_1406 rfl rfl ?_
  refine E.iload_n C dL_law_1407 rfl rfl ?_
  refine E.iconst C dL_law_1408 (by decide) ?_
  refine E.iadd C dL_law_1409 (by omega) ?_
  refine E.sld C hw dL_law_1410 (by omega) ?_
  refine E.callA (ci := 9) (S := [vi x]) (As := [vi (scI sc (i + 1)), vi (scI sc (i + 2)), vi (scI sc (i + 3))]) C hw hM9 yf_X9_lay yv_X9_lay ml_L_167 rfl rfl rfl kd_119 (by decide) ⟨Nat.le_of_ble_eq_true rfl, Nat.le_of_ble_eq_true rfl⟩ ⟨Nat.le_of_ble_eq_true rfl, Nat.le_of_ble_eq_true rfl⟩ (Nat.le_of_ble_eq_true rfl) dL_law_1411 rfl (fun y u hpy => ?_)
  obtain ⟨rfl, hJ⟩ := hk9 y u hpy
  exact E.icmp_eq C dL_law_1414 (tgt := 1508) (by decide) (fun _ => kk _ hJ) (fun h => absurd rfl h)
set_option maxHeartbeats 2000000 in
theorem lc_36 (C : Cx X G RL cL_law) (hw : LW X G Ln sc) (hI : INV v) (hi : 0 ≤ i ∧ i + 5 ≤ (Ln : Int)) (kk : ∀ u, INV u → E X G 137 3791 1000 u 1508 [some (vr 0), some (vr 1), some (vr 119), some (vi i)] []) : E X G 137 3791 1000 v 1419 [some (vr 0), some (vr 1), some (vr 119), some (vi i)] [] := by
  have h25 := hw.2.2.2.1
  obtain ⟨P8, hM8, hk8⟩ := as_read (G := G) hI (scI sc (i + 1)) (scI sc (i + 2)) (scI sc (i + 3)) (scI sc (i + 4))
  refine E.aload_n C dL_law_1419 rfl rfl ?_
  refine E.aload_n C dL_law_1420 rfl rfl ?_
  refine E.iload_n C dL_law_1421 rfl rfl ?_
  refine E.iconst C dL_law_1422 (by decide) ?_
  refine E.iadd C dL_law_1423 (by omega) ?_
  refine E.sld C hw dL_law_1424 (by omega) ?_
  refine E.aload_n C dL_law_1425 rfl rfl ?_
  refine E.iload_n C dL_law_1426 rfl rfl ?_
  refine E.iconst C dL_law_1427 (by decide) ?_
  refine E.iadd C dL_law_1428 (by omega) ?_
  refine E.sld C hw dL_law_1429 (by omega) ?_
  refine E.aload_n C dL_law_1430 rfl rfl ?_
  refine E.iload_n C dL_law_1431 rfl rfl ?_
  refine E.iconst C dL_law_1432 (by decide) ?_
  refine E.iadd C dL_law_1433 (by omega) ?_
  refine E.sld C hw dL_law_1434 (by omega) ?_
  refine E.aload_n C dL_law_1435 rfl rfl ?_
  refine E.iload_n C dL_law_1436 rfl rfl ?_
  refine E.iconst C dL_law_1437 (by decide) ?_
  refine E.iadd C dL_law_1438 (by omega) ?_
  refine E.sld C hw dL_law_1439 (by omega) ?_
  refine E.callA (ci := 8) (S := []) (As := [vi (scI sc (i + 1)), vi (scI sc (i + 2)), vi (scI sc (i + 3)), vi (scI sc (i + 4))]) C hw hM8 yf_X8_read yv_X8_read ml_L_168 rfl rfl rfl kd_1 (by decide) ⟨Nat.le_of_ble_eq_true rfl, Nat.le_of_ble_eq_true rfl⟩ ⟨Nat.le_of_ble_eq_true rfl, Nat.le_of_ble_eq_true rfl⟩ (Nat.le_of_ble_eq_true rfl) dL_law_1440 rfl (fun x w hpx => ?_)
  obtain ⟨P9, hM9, hk9⟩ := hk8 x w hpx
  refine E.aload_n C dL_law_1443 rfl rfl ?_
  refine E.aload_n C dL_law_1444 rfl rfl ?_
  refine E.iload_n C dL_law_1445 rfl rfl ?_
  refine E.iconst C dL_law_1446 (by decide) ?_
  refine E.iadd C dL_law_1447 (by omega) ?_
  refine E.sld C hw dL_law_1448 (by omega) ?_
  refine E.aload_n C dL_law_1449 rfl rfl ?_
  refine E.iload_n C dL_law_1450 rfl rfl ?_
  refine E.iconst C dL_law_1451 (by decide) ?_
  refine E.iadd C dL_law_1452 (by omega) ?_
  refine E.sld C hw dL_law_1453 (by omega) ?_
  refine E.aload_n C dL_law_1454 rfl rfl ?_
  refine E.iload_n C dL_law_1455 rfl rfl ?_
  refine E.iconst C dL_law_1456 (by decide) ?_
  refine E.iadd C dL_law_1457 (by omega) ?_
  refine E.sld C hw dL_law_1458 (by omega) ?_
  refine E.aload_n C dL_law_1459 rfl rfl ?_
  refine E.iload_n C dL_law_1460 rfl rfl ?_
  refine E.iconst C dL_law_1461 (by decide) ?_
  refine E.iadd C dL_law_1462 (by omega) ?_
  refine E.sld C hw dL_law_1463 (by omega) ?_
  refine E.callA (ci := 9) (S := [vi x]) (As := [vi (scI sc (i + 1)), vi (scI sc (i + 2)), vi (scI sc (i + 3)), vi (scI sc (i + 4))]) C hw hM9 yf_X9_read yv_X9_read ml_L_172 rfl rfl rfl kd_119 (by decide) ⟨Nat.le_of_ble_eq_true rfl, Nat.le_of_ble_eq_true rfl⟩ ⟨Nat.le_of_ble_eq_true rfl, Nat.le_of_ble_eq_true rfl⟩ (Nat.le_of_ble_eq_true rfl) dL_law_1464 rfl (fun y u hpy => ?_)
  obtain ⟨rfl, hJ⟩ := hk9 y u hpy
  exact E.icmp_eq C dL_law_1467 (tgt := 1508) (by decide) (fun _ => kk _ hJ) (fun h => absurd rfl h)
set_option maxHeartbeats 2000000 in
theorem lc_37 (C : Cx X G RL cL_law) (hw : LW X G Ln sc) (hI : INV v) (hi : 0 ≤ i ∧ i + 5 ≤ (Ln : Int)) (kk : ∀ u, INV u → E X G 137 3791 1000 u 1508 [some (vr 0), some (vr 1), some (vr 119), some (vi i)] []) : E X G 137 3791 1000 v 1472 [some (vr 0), some (vr 1), some (vr 119), some (vi i)] [] := by
  have h25 := hw.2.2.2.1
  obtain ⟨P8, hM8, hk8⟩ := as_torn (G := G) hI 
  refine E.aload_n C dL_law_1472 rfl rfl ?_
  refine E.callA (ci := 8) (S := []) (As := []) C hw hM8 yf_X8_torn yv_X8_torn ml_L_173 rfl rfl rfl kd_1 (by decide) ⟨Nat.le_of_ble_eq_true rfl, Nat.le_of_ble_eq_true rfl⟩ ⟨Nat.le_of_ble_eq_true rfl, Nat.le_of_ble_eq_true rfl⟩ (Nat.le_of_ble_eq_true rfl) dL_law_1473 rfl (fun x w hpx => ?_)
  obtain ⟨P9, hM9, hk9⟩ := hk8 x w hpx
  refine E.aload_n C dL_law_1476 rfl rfl ?_
  refine E.callA (ci := 9) (S := [vi x]) (As := []) C hw hM9 yf_X9_torn yv_X9_torn ml_L_176 rfl rfl rfl kd_119 (by decide) ⟨Nat.le_of_ble_eq_true rfl, Nat.le_of_ble_eq_true rfl⟩ ⟨Nat.le_of_ble_eq_true rfl, Nat.le_of_ble_eq_true rfl⟩ (Nat.le_of_ble_eq_true rfl) dL_law_1477 rfl (fun y u hpy => ?_)
  obtain ⟨rfl, hJ⟩ := hk9 y u hpy
  exact E.icmp_eq C dL_law_1480 (tgt := 1508) (by decide) (fun _ => kk _ hJ) (fun h => absurd rfl h)
set_option maxHeartbeats 2000000 in
theorem lc_38 (C : Cx X G RL cL_law) (hw : LW X G Ln sc) (hI : INV v) (hi : 0 ≤ i ∧ i + 5 ≤ (Ln : Int)) (kk : ∀ u, INV u → E X G 137 3791 1000 u 1508 [some (vr 0), some (vr 1), some (vr 119), some (vi i)] []) : E X G 137 3791 1000 v 1485 [some (vr 0), some (vr 1), some (vr 119), some (vi i)] [] := by
  have h25 := hw.2.2.2.1
  obtain ⟨P8, hM8, hk8⟩ := as_count (G := G) hI (scI sc (i + 1))
  refine E.aload_n C dL_law_1485 rfl rfl ?_
  refine E.aload_n C dL_law_1486 rfl rfl ?_
  refine E.iload_n C dL_law_1487 rfl rfl ?_
  refine E.iconst C dL_law_1488 (by decide) ?_
  refine E.iadd C dL_law_1489 (by omega) ?_
  refine E.sld C hw dL_law_1490 (by omega) ?_
  refine E.callA (ci := 8) (S := []) (As := [vi (scI sc (i + 1))]) C hw hM8 yf_X8_count yv_X8_count ml_L_177 rfl rfl rfl kd_1 (by decide) ⟨Nat.le_of_ble_eq_true rfl, Nat.le_of_ble_eq_true rfl⟩ ⟨Nat.le_of_ble_eq_true rfl, Nat.le_of_ble_eq_true rfl⟩ (Nat.le_of_ble_eq_true rfl) dL_law_1491 rfl (fun x w hpx => ?_)
  obtain ⟨P9, hM9, hk9⟩ := hk8 x w hpx
  refine E.aload_n C dL_law_1494 rfl rfl ?_
  refine E.aload_n C dL_law_1495 rfl rfl ?_
  refine E.iload_n C dL_law_1496 rfl rfl ?_
  refine E.iconst C dL_law_1497 (by decide) ?_
  refine E.iadd C dL_law_1498 (by omega) ?_
  refine E.sld C hw dL_law_1499 (by omega) ?_
  refine E.callA (ci := 9) (S := [vi x]) (As := [vi (scI sc (i + 1))]) C hw hM9 yf_X9_count yv_X9_count ml_L_180 rfl rfl rfl kd_119 (by decide) ⟨Nat.le_of_ble_eq_true rfl, Nat.le_of_ble_eq_true rfl⟩ ⟨Nat.le_of_ble_eq_true rfl, Nat.le_of_ble_eq_true rfl⟩ (Nat.le_of_ble_eq_true rfl) dL_law_1500 rfl (fun y u hpy => ?_)
  obtain ⟨rfl, hJ⟩ := hk9 y u hpy
  exact E.icmp_eq C dL_law_1503 (tgt := 1508) (by decide) (fun _ => kk _ hJ) (fun h => absurd rfl h)
end LAWC
