/-! THE LAW'S CASES: a call each, class and model. Written by wip/whole/gen/law.py -/
theorem zcmp0 {n : Nat} {x : Int64} (h : n = zjn x) : lg_cmp (Int64.ofNat n) x = 0 := by
  rw [h, zjn_of]
  unfold lg_cmp
  simp
set_option maxHeartbeats 4000000 in
set_option maxRecDepth 100000 in
theorem law_0 {Z : zZ} {p : Program} {l : Launch} {e : Env} {s : State} {m : MethodId} {args : Array Value} {below : List Frame} {meth : Method} {c : Code} {ad0 : Nat → Nat} {h0 : zH} {Q : State → Prop} {L : Nat} {xs : Nat → Int32} {st : zTs} {i : Int32} {cells slots : Nat} (hfl : l.stackTraces = false) (C : zC Z p s m args meth c cL_law 8 RL) (X : zSx Z s L xs) (h : qR st) (hc : cells + 30 ≤ room_1.cells) (hs : slots + 8828 ≤ room_1.slots) (hK : ∀ x st1, qR st1 → zG Z ad0 h0 p l e room_1 s m args below meth c Q (cells + 30) (slots + 8828) (zh (zZx Z x) zm1 st1) 8 3262 [some (.ref 208), some (.ref 10), some (.ref 100), some (.ref 9), some (.int i), none, none, none] []) : zG Z ad0 h0 p l e room_1 s m args below meth c Q cells slots (zh Z zm1 st) 8 228 [some (.ref 208), some (.ref 10), some (.ref 100), some (.ref 9), some (.int i), none, none, none] [] := by
  refine z_aload_n C dL_law_228 (i := 1) rfl rfl ?_
  refine z_aload_n C dL_law_229 (i := 3) rfl rfl ?_
  refine t_callSO C (rest := []) (c2 := cells + 30) (s2 := slots + 8828) [.ref 10, .ref 9] dL_law_230 lw_L_owner (c_L_owner hfl (P1 := fun kc x s9 => ∃ r : Int32, (kc = 0 → x = zjn r.toInt64) ∧ w_X12_owner s9 (zOK kc r)) (b_owner h) (fun k9 s9 hx => by obtain ⟨rfl, hx⟩ := hx; exact ⟨rfl, fun _ => ⟨0, fun z => absurd z (by decide), hx⟩⟩) (fun r s9 hp => ⟨r, fun _ => rfl, hp⟩)) rfl rfl ⟨Nat.le_of_ble_eq_true rfl, Nat.le_of_ble_eq_true rfl⟩ (Nat.le_of_ble_eq_true rfl) ⟨Nat.add_le_add_left (Nat.le_of_ble_eq_true rfl) _, Nat.add_le_add_left (Nat.le_of_ble_eq_true rfl) _, hc, hs⟩ (k_Wx fun kc x s9 hp => ?_)
  obtain ⟨r, hx, hw⟩ := hp
  have C1 := zC_x C x
  have X1 : zSx (zZx Z x) s L xs := X
  refine z_istore C1 dL_law_233 (lc' := [some (.ref 208), some (.ref 10), some (.ref 100), some (.ref 9), some (.int i), some (.int kc), none, none]) (by decide) rfl ?_
  refine z_aload_n C1 dL_law_235 (i := 2) rfl rfl ?_
  refine t_callV C1 (rest := []) (c2 := cells + 30) (s2 := slots + 8828) (kd := 100) (i := 0) [] dL_law_236 lk_L_155 li_X12_owner le_X12_owner (c_X12_owner hfl hw) rfl rfl (by decide) rfl ⟨_, rfl⟩ rfl ⟨Nat.le_of_ble_eq_true rfl, Nat.le_of_ble_eq_true rfl⟩ (Nat.le_of_ble_eq_true rfl) ⟨Nat.le_refl _, Nat.le_refl _, hc, hs⟩ (k_Wi fun b s2 hb => ?_)
  refine z_istore C1 dL_law_239 (lc' := [some (.ref 208), some (.ref 10), some (.ref 100), some (.ref 9), some (.int i), some (.int kc), some (.int b), none]) (by decide) rfl ?_
  refine z_aload_n C1 dL_law_241 (i := 2) rfl rfl ?_
  refine t_callV C1 (rest := []) (c2 := cells + 30) (s2 := slots + 8828) (kd := 100) (i := 0) [] dL_law_242 lk_L_156 li_X12_thrown le_X12_thrown (c_X12_thrown hfl (P := fun r => r = kc) hb.1) rfl rfl (by decide) rfl ⟨_, rfl⟩ rfl ⟨Nat.le_of_ble_eq_true rfl, Nat.le_of_ble_eq_true rfl⟩ (Nat.le_of_ble_eq_true rfl) ⟨Nat.le_refl _, Nat.le_refl _, hc, hs⟩ (k_Ri fun t ht => ?_)
  refine z_iload C1 dL_law_245 (i := 5) rfl ?_
  refine z_icmp_eq C1 dL_law_247 (tgt := 252) (by decide) (fun _ => ?_) (fun z => absurd ht z)
  refine z_iload C1 dL_law_252 (i := 5) rfl ?_
  refine z_if_ne C1 dL_law_254 (tgt := 269) (by decide) (fun _ => ?_) (fun k0 => ?_)
  · refine z_goto C1 dL_law_269 (tgt := 3262) (by decide) ?_
    exact t_drop [true, true, true, true, true, false, false, false] rfl (zG_y x (hK x s2 hb.2.2))
  · refine z_aload_n C1 dL_law_257 (i := 3) rfl rfl ?_
    refine z_iconst C1 dL_law_258 (v := 0) (by decide) ?_
    refine t_jld C1 dL_law_259 rfl ?_
    refine z_iload C1 dL_law_260 (i := 6) rfl ?_
    refine z_i2l C1 dL_law_262 ?_
    refine z_lcmp C1 dL_law_263 ?_
    refine z_if_eq C1 dL_law_264 (tgt := 269) (by decide) (fun _ => ?_) (fun z => absurd (by rw [hb.2.1 k0]; exact zcmp0 (hx k0)) z)
    refine z_goto C1 dL_law_269 (tgt := 3262) (by decide) ?_
    exact t_drop [true, true, true, true, true, false, false, false] rfl (zG_y x (hK x s2 hb.2.2))
set_option maxHeartbeats 4000000 in
set_option maxRecDepth 100000 in
theorem law_1 {Z : zZ} {p : Program} {l : Launch} {e : Env} {s : State} {m : MethodId} {args : Array Value} {below : List Frame} {meth : Method} {c : Code} {ad0 : Nat → Nat} {h0 : zH} {Q : State → Prop} {L : Nat} {xs : Nat → Int32} {st : zTs} {i : Int32} {cells slots : Nat} {a1 : Int32} {a2 : Int32} (hfl : l.stackTraces = false) (C : zC Z p s m args meth c cL_law 8 RL) (X : zSx Z s L xs) (h : qR st) (x1 : vp_in (i + 1) L ∧ xs (i + 1).toNatClampNeg = a1) (x2 : vp_in (i + 2) L ∧ xs (i + 2).toNatClampNeg = a2) (hc : cells + 30 ≤ room_1.cells) (hs : slots + 8828 ≤ room_1.slots) (hK : ∀ x st1, qR st1 → zG Z ad0 h0 p l e room_1 s m args below meth c Q (cells + 30) (slots + 8828) (zh (zZx Z x) zm1 st1) 8 3262 [some (.ref 208), some (.ref 10), some (.ref 100), some (.ref 9), some (.int i), none, none, none] []) : zG Z ad0 h0 p l e room_1 s m args below meth c Q cells slots (zh Z zm1 st) 8 272 [some (.ref 208), some (.ref 10), some (.ref 100), some (.ref 9), some (.int i), none, none, none] [] := by
  refine z_aload_n C dL_law_272 (i := 1) rfl rfl ?_
  refine z_aload_n C dL_law_273 (i := 0) rfl rfl ?_
  refine z_iload C dL_law_274 (i := 4) rfl ?_
  refine z_iconst C dL_law_276 (v := 1) (by decide) ?_
  refine z_iadd C dL_law_277 ?_
  refine t_sld C X dL_law_278 x1.1 ?_
  rw [x1.2]
  refine z_aload_n C dL_law_279 (i := 0) rfl rfl ?_
  refine z_iload C dL_law_280 (i := 4) rfl ?_
  refine z_iconst C dL_law_282 (v := 2) (by decide) ?_
  refine z_iadd C dL_law_283 ?_
  refine t_sld C X dL_law_284 x2.1 ?_
  rw [x2.2]
  refine z_aload_n C dL_law_285 (i := 3) rfl rfl ?_
  refine t_callSO C (rest := []) (c2 := cells + 30) (s2 := slots + 8828) [.ref 10, .int a1, .int a2, .ref 9] dL_law_286 lw_L_wall (c_L_wall hfl (P1 := fun kc x s9 => ∃ r : Int32, (kc = 0 → x = zjn r.toInt64) ∧ w_X12_wall s9 a1 a2 (zOK kc r)) (b_wall h) (fun k9 s9 hx => by rcases hx with ⟨rfl, hx⟩ | ⟨rfl, hx⟩ <;> first | exact Or.inl ⟨rfl, fun _ => ⟨0, fun z => absurd z (by decide), hx⟩⟩ | exact Or.inr (⟨rfl, fun _ => ⟨0, fun z => absurd z (by decide), hx⟩⟩)) (fun r s9 hp => ⟨r, fun _ => rfl, hp⟩)) rfl rfl ⟨Nat.le_of_ble_eq_true rfl, Nat.le_of_ble_eq_true rfl⟩ (Nat.le_of_ble_eq_true rfl) ⟨Nat.add_le_add_left (Nat.le_of_ble_eq_true rfl) _, Nat.add_le_add_left (Nat.le_of_ble_eq_true rfl) _, hc, hs⟩ (k_Wx fun kc x s9 hp => ?_)
  obtain ⟨r, hx, hw⟩ := hp
  have C1 := zC_x C x
  have X1 : zSx (zZx Z x) s L xs := X
  refine z_istore C1 dL_law_289 (lc' := [some (.ref 208), some (.ref 10), some (.ref 100), some (.ref 9), some (.int i), some (.int kc), none, none]) (by decide) rfl ?_
  refine z_aload_n C1 dL_law_291 (i := 2) rfl rfl ?_
  refine z_aload_n C1 dL_law_292 (i := 0) rfl rfl ?_
  refine z_iload C1 dL_law_293 (i := 4) rfl ?_
  refine z_iconst C1 dL_law_295 (v := 1) (by decide) ?_
  refine z_iadd C1 dL_law_296 ?_
  refine t_sld C1 X1 dL_law_297 x1.1 ?_
  rw [x1.2]
  refine z_aload_n C1 dL_law_298 (i := 0) rfl rfl ?_
  refine z_iload C1 dL_law_299 (i := 4) rfl ?_
  refine z_iconst C1 dL_law_301 (v := 2) (by decide) ?_
  refine z_iadd C1 dL_law_302 ?_
  refine t_sld C1 X1 dL_law_303 x2.1 ?_
  rw [x2.2]
  refine t_callV C1 (rest := []) (c2 := cells + 30) (s2 := slots + 8828) (kd := 100) (i := 0) [.int a1, .int a2] dL_law_304 lk_L_162 li_X12_wall le_X12_wall (c_X12_wall hfl hw) rfl rfl (by decide) rfl ⟨_, rfl⟩ rfl ⟨Nat.le_of_ble_eq_true rfl, Nat.le_of_ble_eq_true rfl⟩ (Nat.le_of_ble_eq_true rfl) ⟨Nat.le_refl _, Nat.le_refl _, hc, hs⟩ (k_Wi fun b s2 hb => ?_)
  refine z_istore C1 dL_law_307 (lc' := [some (.ref 208), some (.ref 10), some (.ref 100), some (.ref 9), some (.int i), some (.int kc), some (.int b), none]) (by decide) rfl ?_
  refine z_aload_n C1 dL_law_309 (i := 2) rfl rfl ?_
  refine t_callV C1 (rest := []) (c2 := cells + 30) (s2 := slots + 8828) (kd := 100) (i := 0) [] dL_law_310 lk_L_156 li_X12_thrown le_X12_thrown (c_X12_thrown hfl (P := fun r => r = kc) hb.1) rfl rfl (by decide) rfl ⟨_, rfl⟩ rfl ⟨Nat.le_of_ble_eq_true rfl, Nat.le_of_ble_eq_true rfl⟩ (Nat.le_of_ble_eq_true rfl) ⟨Nat.le_refl _, Nat.le_refl _, hc, hs⟩ (k_Ri fun t ht => ?_)
  refine z_iload C1 dL_law_313 (i := 5) rfl ?_
  refine z_icmp_eq C1 dL_law_315 (tgt := 320) (by decide) (fun _ => ?_) (fun z => absurd ht z)
  refine z_iload C1 dL_law_320 (i := 5) rfl ?_
  refine z_if_ne C1 dL_law_322 (tgt := 337) (by decide) (fun _ => ?_) (fun k0 => ?_)
  · refine z_goto C1 dL_law_337 (tgt := 3262) (by decide) ?_
    exact t_drop [true, true, true, true, true, false, false, false] rfl (zG_y x (hK x s2 hb.2.2))
  · refine z_aload_n C1 dL_law_325 (i := 3) rfl rfl ?_
    refine z_iconst C1 dL_law_326 (v := 0) (by decide) ?_
    refine t_jld C1 dL_law_327 rfl ?_
    refine z_iload C1 dL_law_328 (i := 6) rfl ?_
    refine z_i2l C1 dL_law_330 ?_
    refine z_lcmp C1 dL_law_331 ?_
    refine z_if_eq C1 dL_law_332 (tgt := 337) (by decide) (fun _ => ?_) (fun z => absurd (by rw [hb.2.1 k0]; exact zcmp0 (hx k0)) z)
    refine z_goto C1 dL_law_337 (tgt := 3262) (by decide) ?_
    exact t_drop [true, true, true, true, true, false, false, false] rfl (zG_y x (hK x s2 hb.2.2))
set_option maxHeartbeats 4000000 in
set_option maxRecDepth 100000 in
theorem law_2 {Z : zZ} {p : Program} {l : Launch} {e : Env} {s : State} {m : MethodId} {args : Array Value} {below : List Frame} {meth : Method} {c : Code} {ad0 : Nat → Nat} {h0 : zH} {Q : State → Prop} {L : Nat} {xs : Nat → Int32} {st : zTs} {i : Int32} {cells slots : Nat} {a1 : Int32} {a2 : Int32} {a3 : Int32} (hfl : l.stackTraces = false) (C : zC Z p s m args meth c cL_law 8 RL) (X : zSx Z s L xs) (h : qR st) (x1 : vp_in (i + 1) L ∧ xs (i + 1).toNatClampNeg = a1) (x2 : vp_in (i + 2) L ∧ xs (i + 2).toNatClampNeg = a2) (x3 : vp_in (i + 3) L ∧ xs (i + 3).toNatClampNeg = a3) (hc : cells + 30 ≤ room_1.cells) (hs : slots + 8828 ≤ room_1.slots) (hK : ∀ x st1, qR st1 → zG Z ad0 h0 p l e room_1 s m args below meth c Q (cells + 30) (slots + 8828) (zh (zZx Z x) zm1 st1) 8 3262 [some (.ref 208), some (.ref 10), some (.ref 100), some (.ref 9), some (.int i), none, none, none] []) : zG Z ad0 h0 p l e room_1 s m args below meth c Q cells slots (zh Z zm1 st) 8 340 [some (.ref 208), some (.ref 10), some (.ref 100), some (.ref 9), some (.int i), none, none, none] [] := by
  refine z_aload_n C dL_law_340 (i := 1) rfl rfl ?_
  refine z_aload_n C dL_law_341 (i := 0) rfl rfl ?_
  refine z_iload C dL_law_342 (i := 4) rfl ?_
  refine z_iconst C dL_law_344 (v := 1) (by decide) ?_
  refine z_iadd C dL_law_345 ?_
  refine t_sld C X dL_law_346 x1.1 ?_
  rw [x1.2]
  refine z_aload_n C dL_law_347 (i := 0) rfl rfl ?_
  refine z_iload C dL_law_348 (i := 4) rfl ?_
  refine z_iconst C dL_law_350 (v := 2) (by decide) ?_
  refine z_iadd C dL_law_351 ?_
  refine t_sld C X dL_law_352 x2.1 ?_
  rw [x2.2]
  refine z_aload_n C dL_law_353 (i := 0) rfl rfl ?_
  refine z_iload C dL_law_354 (i := 4) rfl ?_
  refine z_iconst C dL_law_356 (v := 3) (by decide) ?_
  refine z_iadd C dL_law_357 ?_
  refine t_sld C X dL_law_358 x3.1 ?_
  rw [x3.2]
  refine z_aload_n C dL_law_359 (i := 3) rfl rfl ?_
  refine t_callSO C (rest := []) (c2 := cells + 30) (s2 := slots + 8828) [.ref 10, .int a1, .int a2, .int a3, .ref 9] dL_law_360 lw_L_sell (c_L_sell hfl (P1 := fun kc x s9 => ∃ r : Int32, (kc = 0 → x = zjn r.toInt64) ∧ w_X12_sell s9 a1 a2 a3 (zOK kc r)) (b_sell h) (fun k9 s9 hx => by rcases hx with ⟨rfl, hx⟩ | ⟨rfl, hx⟩ <;> first | exact Or.inl ⟨rfl, fun _ => ⟨0, fun z => absurd z (by decide), hx⟩⟩ | exact Or.inr (⟨rfl, fun _ => ⟨0, fun z => absurd z (by decide), hx⟩⟩)) (fun r s9 hp => ⟨r, fun _ => rfl, hp⟩)) rfl rfl ⟨Nat.le_of_ble_eq_true rfl, Nat.le_of_ble_eq_true rfl⟩ (Nat.le_of_ble_eq_true rfl) ⟨Nat.add_le_add_left (Nat.le_of_ble_eq_true rfl) _, Nat.add_le_add_left (Nat.le_of_ble_eq_true rfl) _, hc, hs⟩ (k_Wx fun kc x s9 hp => ?_)
  obtain ⟨r, hx, hw⟩ := hp
  have C1 := zC_x C x
  have X1 : zSx (zZx Z x) s L xs := X
  refine z_istore C1 dL_law_363 (lc' := [some (.ref 208), some (.ref 10), some (.ref 100), some (.ref 9), some (.int i), some (.int kc), none, none]) (by decide) rfl ?_
  refine z_aload_n C1 dL_law_365 (i := 2) rfl rfl ?_
  refine z_aload_n C1 dL_law_366 (i := 0) rfl rfl ?_
  refine z_iload C1 dL_law_367 (i := 4) rfl ?_
  refine z_iconst C1 dL_law_369 (v := 1) (by decide) ?_
  refine z_iadd C1 dL_law_370 ?_
  refine t_sld C1 X1 dL_law_371 x1.1 ?_
  rw [x1.2]
  refine z_aload_n C1 dL_law_372 (i := 0) rfl rfl ?_
  refine z_iload C1 dL_law_373 (i := 4) rfl ?_
  refine z_iconst C1 dL_law_375 (v := 2) (by decide) ?_
  refine z_iadd C1 dL_law_376 ?_
  refine t_sld C1 X1 dL_law_377 x2.1 ?_
  rw [x2.2]
  refine z_aload_n C1 dL_law_378 (i := 0) rfl rfl ?_
  refine z_iload C1 dL_law_379 (i := 4) rfl ?_
  refine z_iconst C1 dL_law_381 (v := 3) (by decide) ?_
  refine z_iadd C1 dL_law_382 ?_
  refine t_sld C1 X1 dL_law_383 x3.1 ?_
  rw [x3.2]
  refine t_callV C1 (rest := []) (c2 := cells + 30) (s2 := slots + 8828) (kd := 100) (i := 0) [.int a1, .int a2, .int a3] dL_law_384 lk_L_166 li_X12_sell le_X12_sell (c_X12_sell hfl hw) rfl rfl (by decide) rfl ⟨_, rfl⟩ rfl ⟨Nat.le_of_ble_eq_true rfl, Nat.le_of_ble_eq_true rfl⟩ (Nat.le_of_ble_eq_true rfl) ⟨Nat.le_refl _, Nat.le_refl _, hc, hs⟩ (k_Wi fun b s2 hb => ?_)
  refine z_istore C1 dL_law_387 (lc' := [some (.ref 208), some (.ref 10), some (.ref 100), some (.ref 9), some (.int i), some (.int kc), some (.int b), none]) (by decide) rfl ?_
  refine z_aload_n C1 dL_law_389 (i := 2) rfl rfl ?_
  refine t_callV C1 (rest := []) (c2 := cells + 30) (s2 := slots + 8828) (kd := 100) (i := 0) [] dL_law_390 lk_L_156 li_X12_thrown le_X12_thrown (c_X12_thrown hfl (P := fun r => r = kc) hb.1) rfl rfl (by decide) rfl ⟨_, rfl⟩ rfl ⟨Nat.le_of_ble_eq_true rfl, Nat.le_of_ble_eq_true rfl⟩ (Nat.le_of_ble_eq_true rfl) ⟨Nat.le_refl _, Nat.le_refl _, hc, hs⟩ (k_Ri fun t ht => ?_)
  refine z_iload C1 dL_law_393 (i := 5) rfl ?_
  refine z_icmp_eq C1 dL_law_395 (tgt := 400) (by decide) (fun _ => ?_) (fun z => absurd ht z)
  refine z_iload C1 dL_law_400 (i := 5) rfl ?_
  refine z_if_ne C1 dL_law_402 (tgt := 417) (by decide) (fun _ => ?_) (fun k0 => ?_)
  · refine z_goto C1 dL_law_417 (tgt := 3262) (by decide) ?_
    exact t_drop [true, true, true, true, true, false, false, false] rfl (zG_y x (hK x s2 hb.2.2))
  · refine z_aload_n C1 dL_law_405 (i := 3) rfl rfl ?_
    refine z_iconst C1 dL_law_406 (v := 0) (by decide) ?_
    refine t_jld C1 dL_law_407 rfl ?_
    refine z_iload C1 dL_law_408 (i := 6) rfl ?_
    refine z_i2l C1 dL_law_410 ?_
    refine z_lcmp C1 dL_law_411 ?_
    refine z_if_eq C1 dL_law_412 (tgt := 417) (by decide) (fun _ => ?_) (fun z => absurd (by rw [hb.2.1 k0]; exact zcmp0 (hx k0)) z)
    refine z_goto C1 dL_law_417 (tgt := 3262) (by decide) ?_
    exact t_drop [true, true, true, true, true, false, false, false] rfl (zG_y x (hK x s2 hb.2.2))
set_option maxHeartbeats 4000000 in
set_option maxRecDepth 100000 in
theorem law_3 {Z : zZ} {p : Program} {l : Launch} {e : Env} {s : State} {m : MethodId} {args : Array Value} {below : List Frame} {meth : Method} {c : Code} {ad0 : Nat → Nat} {h0 : zH} {Q : State → Prop} {L : Nat} {xs : Nat → Int32} {st : zTs} {i : Int32} {cells slots : Nat} {a1 : Int32} (hfl : l.stackTraces = false) (C : zC Z p s m args meth c cL_law 8 RL) (X : zSx Z s L xs) (h : qR st) (x1 : vp_in (i + 1) L ∧ xs (i + 1).toNatClampNeg = a1) (hc : cells + 30 ≤ room_1.cells) (hs : slots + 8828 ≤ room_1.slots) (hK : ∀ x st1, qR st1 → zG Z ad0 h0 p l e room_1 s m args below meth c Q (cells + 30) (slots + 8828) (zh (zZx Z x) zm1 st1) 8 3262 [some (.ref 208), some (.ref 10), some (.ref 100), some (.ref 9), some (.int i), none, none, none] []) : zG Z ad0 h0 p l e room_1 s m args below meth c Q cells slots (zh Z zm1 st) 8 420 [some (.ref 208), some (.ref 10), some (.ref 100), some (.ref 9), some (.int i), none, none, none] [] := by
  refine z_aload_n C dL_law_420 (i := 1) rfl rfl ?_
  refine z_aload_n C dL_law_421 (i := 0) rfl rfl ?_
  refine z_iload C dL_law_422 (i := 4) rfl ?_
  refine z_iconst C dL_law_424 (v := 1) (by decide) ?_
  refine z_iadd C dL_law_425 ?_
  refine t_sld C X dL_law_426 x1.1 ?_
  rw [x1.2]
  refine z_aload_n C dL_law_427 (i := 3) rfl rfl ?_
  refine t_callSO C (rest := []) (c2 := cells + 30) (s2 := slots + 8828) [.ref 10, .int a1, .ref 9] dL_law_428 lw_L_wait (c_L_wait hfl (P1 := fun kc x s9 => ∃ r : Int32, (kc = 0 → x = zjn r.toInt64) ∧ w_X12_wait s9 a1 (zOK kc r)) (b_wait h) (fun k9 s9 hx => by rcases hx with ⟨rfl, hx⟩ | ⟨rfl, hx⟩ <;> first | exact Or.inl ⟨rfl, fun _ => ⟨0, fun z => absurd z (by decide), hx⟩⟩ | exact Or.inr (⟨rfl, fun _ => ⟨0, fun z => absurd z (by decide), hx⟩⟩)) (fun r s9 hp => ⟨r, fun _ => rfl, hp⟩)) rfl rfl ⟨Nat.le_of_ble_eq_true rfl, Nat.le_of_ble_eq_true rfl⟩ (Nat.le_of_ble_eq_true rfl) ⟨Nat.add_le_add_left (Nat.le_of_ble_eq_true rfl) _, Nat.add_le_add_left (Nat.le_of_ble_eq_true rfl) _, hc, hs⟩ (k_Wx fun kc x s9 hp => ?_)
  obtain ⟨r, hx, hw⟩ := hp
  have C1 := zC_x C x
  have X1 : zSx (zZx Z x) s L xs := X
  refine z_istore C1 dL_law_431 (lc' := [some (.ref 208), some (.ref 10), some (.ref 100), some (.ref 9), some (.int i), some (.int kc), none, none]) (by decide) rfl ?_
  refine z_aload_n C1 dL_law_433 (i := 2) rfl rfl ?_
  refine z_aload_n C1 dL_law_434 (i := 0) rfl rfl ?_
  refine z_iload C1 dL_law_435 (i := 4) rfl ?_
  refine z_iconst C1 dL_law_437 (v := 1) (by decide) ?_
  refine z_iadd C1 dL_law_438 ?_
  refine t_sld C1 X1 dL_law_439 x1.1 ?_
  rw [x1.2]
  refine t_callV C1 (rest := []) (c2 := cells + 30) (s2 := slots + 8828) (kd := 100) (i := 0) [.int a1] dL_law_440 lk_L_170 li_X12_wait le_X12_wait (c_X12_wait hfl hw) rfl rfl (by decide) rfl ⟨_, rfl⟩ rfl ⟨Nat.le_of_ble_eq_true rfl, Nat.le_of_ble_eq_true rfl⟩ (Nat.le_of_ble_eq_true rfl) ⟨Nat.le_refl _, Nat.le_refl _, hc, hs⟩ (k_Wi fun b s2 hb => ?_)
  refine z_istore C1 dL_law_443 (lc' := [some (.ref 208), some (.ref 10), some (.ref 100), some (.ref 9), some (.int i), some (.int kc), some (.int b), none]) (by decide) rfl ?_
  refine z_aload_n C1 dL_law_445 (i := 2) rfl rfl ?_
  refine t_callV C1 (rest := []) (c2 := cells + 30) (s2 := slots + 8828) (kd := 100) (i := 0) [] dL_law_446 lk_L_156 li_X12_thrown le_X12_thrown (c_X12_thrown hfl (P := fun r => r = kc) hb.1) rfl rfl (by decide) rfl ⟨_, rfl⟩ rfl ⟨Nat.le_of_ble_eq_true rfl, Nat.le_of_ble_eq_true rfl⟩ (Nat.le_of_ble_eq_true rfl) ⟨Nat.le_refl _, Nat.le_refl _, hc, hs⟩ (k_Ri fun t ht => ?_)
  refine z_iload C1 dL_law_449 (i := 5) rfl ?_
  refine z_icmp_eq C1 dL_law_451 (tgt := 456) (by decide) (fun _ => ?_) (fun z => absurd ht z)
  refine z_iload C1 dL_law_456 (i := 5) rfl ?_
  refine z_if_ne C1 dL_law_458 (tgt := 473) (by decide) (fun _ => ?_) (fun k0 => ?_)
  · refine z_goto C1 dL_law_473 (tgt := 3262) (by decide) ?_
    exact t_drop [true, true, true, true, true, false, false, false] rfl (zG_y x (hK x s2 hb.2.2))
  · refine z_aload_n C1 dL_law_461 (i := 3) rfl rfl ?_
    refine z_iconst C1 dL_law_462 (v := 0) (by decide) ?_
    refine t_jld C1 dL_law_463 rfl ?_
    refine z_iload C1 dL_law_464 (i := 6) rfl ?_
    refine z_i2l C1 dL_law_466 ?_
    refine z_lcmp C1 dL_law_467 ?_
    refine z_if_eq C1 dL_law_468 (tgt := 473) (by decide) (fun _ => ?_) (fun z => absurd (by rw [hb.2.1 k0]; exact zcmp0 (hx k0)) z)
    refine z_goto C1 dL_law_473 (tgt := 3262) (by decide) ?_
    exact t_drop [true, true, true, true, true, false, false, false] rfl (zG_y x (hK x s2 hb.2.2))
set_option maxHeartbeats 4000000 in
set_option maxRecDepth 100000 in
theorem law_4 {Z : zZ} {p : Program} {l : Launch} {e : Env} {s : State} {m : MethodId} {args : Array Value} {below : List Frame} {meth : Method} {c : Code} {ad0 : Nat → Nat} {h0 : zH} {Q : State → Prop} {L : Nat} {xs : Nat → Int32} {st : zTs} {i : Int32} {cells slots : Nat} {a1 : Int32} {a2 : Int32} {a3 : Int32} {a4 : Int32} {a5 : Int32} (hfl : l.stackTraces = false) (C : zC Z p s m args meth c cL_law 8 RL) (X : zSx Z s L xs) (h : qR st) (x1 : vp_in (i + 1) L ∧ xs (i + 1).toNatClampNeg = a1) (x2 : vp_in (i + 2) L ∧ xs (i + 2).toNatClampNeg = a2) (x3 : vp_in (i + 3) L ∧ xs (i + 3).toNatClampNeg = a3) (x4 : vp_in (i + 4) L ∧ xs (i + 4).toNatClampNeg = a4) (x5 : vp_in (i + 5) L ∧ xs (i + 5).toNatClampNeg = a5) (hc : cells + 30 ≤ room_1.cells) (hs : slots + 8828 ≤ room_1.slots) (hK : ∀ x st1, qR st1 → zG Z ad0 h0 p l e room_1 s m args below meth c Q (cells + 30) (slots + 8828) (zh (zZx Z x) zm1 st1) 8 3262 [some (.ref 208), some (.ref 10), some (.ref 100), some (.ref 9), some (.int i), none, none, none] []) : zG Z ad0 h0 p l e room_1 s m args below meth c Q cells slots (zh Z zm1 st) 8 476 [some (.ref 208), some (.ref 10), some (.ref 100), some (.ref 9), some (.int i), none, none, none] [] := by
  refine z_aload_n C dL_law_476 (i := 1) rfl rfl ?_
  refine z_aload_n C dL_law_477 (i := 0) rfl rfl ?_
  refine z_iload C dL_law_478 (i := 4) rfl ?_
  refine z_iconst C dL_law_480 (v := 1) (by decide) ?_
  refine z_iadd C dL_law_481 ?_
  refine t_sld C X dL_law_482 x1.1 ?_
  rw [x1.2]
  refine z_aload_n C dL_law_483 (i := 0) rfl rfl ?_
  refine z_iload C dL_law_484 (i := 4) rfl ?_
  refine z_iconst C dL_law_486 (v := 2) (by decide) ?_
  refine z_iadd C dL_law_487 ?_
  refine t_sld C X dL_law_488 x2.1 ?_
  rw [x2.2]
  refine z_aload_n C dL_law_489 (i := 0) rfl rfl ?_
  refine z_iload C dL_law_490 (i := 4) rfl ?_
  refine z_iconst C dL_law_492 (v := 3) (by decide) ?_
  refine z_iadd C dL_law_493 ?_
  refine t_sld C X dL_law_494 x3.1 ?_
  rw [x3.2]
  refine z_aload_n C dL_law_495 (i := 0) rfl rfl ?_
  refine z_iload C dL_law_496 (i := 4) rfl ?_
  refine z_iconst C dL_law_498 (v := 4) (by decide) ?_
  refine z_iadd C dL_law_499 ?_
  refine t_sld C X dL_law_500 x4.1 ?_
  rw [x4.2]
  refine z_aload_n C dL_law_501 (i := 0) rfl rfl ?_
  refine z_iload C dL_law_502 (i := 4) rfl ?_
  refine z_iconst C dL_law_504 (v := 5) (by decide) ?_
  refine z_iadd C dL_law_505 ?_
  refine t_sld C X dL_law_506 x5.1 ?_
  rw [x5.2]
  refine t_callV C (rest := []) (c2 := cells + 30) (s2 := slots + 8828) (kd := 10) (i := 0) [.int a1, .int a2, .int a3, .int a4, .int a5] dL_law_507 lk_L_171 li_X11_feed le_X11_feed (c_X11_feed hfl (b_feed h)) rfl rfl (by decide) rfl ⟨_, rfl⟩ rfl ⟨Nat.le_of_ble_eq_true rfl, Nat.le_of_ble_eq_true rfl⟩ (Nat.le_of_ble_eq_true rfl) ⟨Nat.add_le_add_left (Nat.le_of_ble_eq_true rfl) _, Nat.add_le_add_left (Nat.le_of_ble_eq_true rfl) _, hc, hs⟩ (k_Wi fun r s9 hw => ?_)
  refine z_aload_n C dL_law_510 (i := 2) rfl rfl ?_
  refine z_aload_n C dL_law_511 (i := 0) rfl rfl ?_
  refine z_iload C dL_law_512 (i := 4) rfl ?_
  refine z_iconst C dL_law_514 (v := 1) (by decide) ?_
  refine z_iadd C dL_law_515 ?_
  refine t_sld C X dL_law_516 x1.1 ?_
  rw [x1.2]
  refine z_aload_n C dL_law_517 (i := 0) rfl rfl ?_
  refine z_iload C dL_law_518 (i := 4) rfl ?_
  refine z_iconst C dL_law_520 (v := 2) (by decide) ?_
  refine z_iadd C dL_law_521 ?_
  refine t_sld C X dL_law_522 x2.1 ?_
  rw [x2.2]
  refine z_aload_n C dL_law_523 (i := 0) rfl rfl ?_
  refine z_iload C dL_law_524 (i := 4) rfl ?_
  refine z_iconst C dL_law_526 (v := 3) (by decide) ?_
  refine z_iadd C dL_law_527 ?_
  refine t_sld C X dL_law_528 x3.1 ?_
  rw [x3.2]
  refine z_aload_n C dL_law_529 (i := 0) rfl rfl ?_
  refine z_iload C dL_law_530 (i := 4) rfl ?_
  refine z_iconst C dL_law_532 (v := 4) (by decide) ?_
  refine z_iadd C dL_law_533 ?_
  refine t_sld C X dL_law_534 x4.1 ?_
  rw [x4.2]
  refine z_aload_n C dL_law_535 (i := 0) rfl rfl ?_
  refine z_iload C dL_law_536 (i := 4) rfl ?_
  refine z_iconst C dL_law_538 (v := 5) (by decide) ?_
  refine z_iadd C dL_law_539 ?_
  refine t_sld C X dL_law_540 x5.1 ?_
  rw [x5.2]
  refine t_callV C (rest := [.int r]) (c2 := cells + 30) (s2 := slots + 8828) (kd := 100) (i := 0) [.int a1, .int a2, .int a3, .int a4, .int a5] dL_law_541 lk_L_174 li_X12_feed le_X12_feed (c_X12_feed hfl hw) rfl rfl (by decide) rfl ⟨_, rfl⟩ rfl ⟨Nat.le_of_ble_eq_true rfl, Nat.le_of_ble_eq_true rfl⟩ (Nat.le_of_ble_eq_true rfl) ⟨Nat.le_refl _, Nat.le_refl _, hc, hs⟩ (k_Wi fun b s2 hb => ?_)
  refine z_icmp_eq C dL_law_544 (tgt := 3262) (by decide) (fun _ => ?_) (fun z => absurd (hb.2.1 rfl).symm z)
  have hk := hK (Z.2.1 9) s2 hb.2.2
  rw [zZx_self] at hk
  exact t_drop [true, true, true, true, true, false, false, false] rfl hk
set_option maxHeartbeats 4000000 in
set_option maxRecDepth 100000 in
theorem law_5 {Z : zZ} {p : Program} {l : Launch} {e : Env} {s : State} {m : MethodId} {args : Array Value} {below : List Frame} {meth : Method} {c : Code} {ad0 : Nat → Nat} {h0 : zH} {Q : State → Prop} {L : Nat} {xs : Nat → Int32} {st : zTs} {i : Int32} {cells slots : Nat} {a1 : Int32} (hfl : l.stackTraces = false) (C : zC Z p s m args meth c cL_law 8 RL) (X : zSx Z s L xs) (h : qR st) (x1 : vp_in (i + 1) L ∧ xs (i + 1).toNatClampNeg = a1) (hc : cells + 30 ≤ room_1.cells) (hs : slots + 8828 ≤ room_1.slots) (hK : ∀ x st1, qR st1 → zG Z ad0 h0 p l e room_1 s m args below meth c Q (cells + 30) (slots + 8828) (zh (zZx Z x) zm1 st1) 8 3262 [some (.ref 208), some (.ref 10), some (.ref 100), some (.ref 9), some (.int i), none, none, none] []) : zG Z ad0 h0 p l e room_1 s m args below meth c Q cells slots (zh Z zm1 st) 8 549 [some (.ref 208), some (.ref 10), some (.ref 100), some (.ref 9), some (.int i), none, none, none] [] := by
  refine z_aload_n C dL_law_549 (i := 1) rfl rfl ?_
  refine z_aload_n C dL_law_550 (i := 0) rfl rfl ?_
  refine z_iload C dL_law_551 (i := 4) rfl ?_
  refine z_iconst C dL_law_553 (v := 1) (by decide) ?_
  refine z_iadd C dL_law_554 ?_
  refine t_sld C X dL_law_555 x1.1 ?_
  rw [x1.2]
  refine z_aload_n C dL_law_556 (i := 3) rfl rfl ?_
  refine t_callSO C (rest := []) (c2 := cells + 30) (s2 := slots + 8828) [.ref 10, .int a1, .ref 9] dL_law_557 lw_L_rule (c_L_rule hfl (P1 := fun kc x s9 => ∃ r : Int32, (kc = 0 → x = zjn r.toInt64) ∧ w_X12_rule s9 a1 (zOK kc r)) (b_rule h) (fun k9 s9 hx => by obtain ⟨rfl, hx⟩ := hx; exact ⟨rfl, fun _ => ⟨0, fun z => absurd z (by decide), hx⟩⟩) (fun r s9 hp => ⟨r, fun _ => rfl, hp⟩)) rfl rfl ⟨Nat.le_of_ble_eq_true rfl, Nat.le_of_ble_eq_true rfl⟩ (Nat.le_of_ble_eq_true rfl) ⟨Nat.add_le_add_left (Nat.le_of_ble_eq_true rfl) _, Nat.add_le_add_left (Nat.le_of_ble_eq_true rfl) _, hc, hs⟩ (k_Wx fun kc x s9 hp => ?_)
  obtain ⟨r, hx, hw⟩ := hp
  have C1 := zC_x C x
  have X1 : zSx (zZx Z x) s L xs := X
  refine z_istore C1 dL_law_560 (lc' := [some (.ref 208), some (.ref 10), some (.ref 100), some (.ref 9), some (.int i), some (.int kc), none, none]) (by decide) rfl ?_
  refine z_aload_n C1 dL_law_562 (i := 2) rfl rfl ?_
  refine z_aload_n C1 dL_law_563 (i := 0) rfl rfl ?_
  refine z_iload C1 dL_law_564 (i := 4) rfl ?_
  refine z_iconst C1 dL_law_566 (v := 1) (by decide) ?_
  refine z_iadd C1 dL_law_567 ?_
  refine t_sld C1 X1 dL_law_568 x1.1 ?_
  rw [x1.2]
  refine t_callV C1 (rest := []) (c2 := cells + 30) (s2 := slots + 8828) (kd := 100) (i := 0) [.int a1] dL_law_569 lk_L_177 li_X12_rule le_X12_rule (c_X12_rule hfl hw) rfl rfl (by decide) rfl ⟨_, rfl⟩ rfl ⟨Nat.le_of_ble_eq_true rfl, Nat.le_of_ble_eq_true rfl⟩ (Nat.le_of_ble_eq_true rfl) ⟨Nat.le_refl _, Nat.le_refl _, hc, hs⟩ (k_Wi fun b s2 hb => ?_)
  refine z_istore C1 dL_law_572 (lc' := [some (.ref 208), some (.ref 10), some (.ref 100), some (.ref 9), some (.int i), some (.int kc), some (.int b), none]) (by decide) rfl ?_
  refine z_aload_n C1 dL_law_574 (i := 2) rfl rfl ?_
  refine t_callV C1 (rest := []) (c2 := cells + 30) (s2 := slots + 8828) (kd := 100) (i := 0) [] dL_law_575 lk_L_156 li_X12_thrown le_X12_thrown (c_X12_thrown hfl (P := fun r => r = kc) hb.1) rfl rfl (by decide) rfl ⟨_, rfl⟩ rfl ⟨Nat.le_of_ble_eq_true rfl, Nat.le_of_ble_eq_true rfl⟩ (Nat.le_of_ble_eq_true rfl) ⟨Nat.le_refl _, Nat.le_refl _, hc, hs⟩ (k_Ri fun t ht => ?_)
  refine z_iload C1 dL_law_578 (i := 5) rfl ?_
  refine z_icmp_eq C1 dL_law_580 (tgt := 585) (by decide) (fun _ => ?_) (fun z => absurd ht z)
  refine z_iload C1 dL_law_585 (i := 5) rfl ?_
  refine z_if_ne C1 dL_law_587 (tgt := 602) (by decide) (fun _ => ?_) (fun k0 => ?_)
  · refine z_goto C1 dL_law_602 (tgt := 3262) (by decide) ?_
    exact t_drop [true, true, true, true, true, false, false, false] rfl (zG_y x (hK x s2 hb.2.2))
  · refine z_aload_n C1 dL_law_590 (i := 3) rfl rfl ?_
    refine z_iconst C1 dL_law_591 (v := 0) (by decide) ?_
    refine t_jld C1 dL_law_592 rfl ?_
    refine z_iload C1 dL_law_593 (i := 6) rfl ?_
    refine z_i2l C1 dL_law_595 ?_
    refine z_lcmp C1 dL_law_596 ?_
    refine z_if_eq C1 dL_law_597 (tgt := 602) (by decide) (fun _ => ?_) (fun z => absurd (by rw [hb.2.1 k0]; exact zcmp0 (hx k0)) z)
    refine z_goto C1 dL_law_602 (tgt := 3262) (by decide) ?_
    exact t_drop [true, true, true, true, true, false, false, false] rfl (zG_y x (hK x s2 hb.2.2))
set_option maxHeartbeats 4000000 in
set_option maxRecDepth 100000 in
theorem law_6 {Z : zZ} {p : Program} {l : Launch} {e : Env} {s : State} {m : MethodId} {args : Array Value} {below : List Frame} {meth : Method} {c : Code} {ad0 : Nat → Nat} {h0 : zH} {Q : State → Prop} {L : Nat} {xs : Nat → Int32} {st : zTs} {i : Int32} {cells slots : Nat} (hfl : l.stackTraces = false) (C : zC Z p s m args meth c cL_law 8 RL) (X : zSx Z s L xs) (h : qR st) (hc : cells + 30 ≤ room_1.cells) (hs : slots + 8828 ≤ room_1.slots) (hK : ∀ x st1, qR st1 → zG Z ad0 h0 p l e room_1 s m args below meth c Q (cells + 30) (slots + 8828) (zh (zZx Z x) zm1 st1) 8 3262 [some (.ref 208), some (.ref 10), some (.ref 100), some (.ref 9), some (.int i), none, none, none] []) : zG Z ad0 h0 p l e room_1 s m args below meth c Q cells slots (zh Z zm1 st) 8 605 [some (.ref 208), some (.ref 10), some (.ref 100), some (.ref 9), some (.int i), none, none, none] [] := by
  refine z_aload_n C dL_law_605 (i := 1) rfl rfl ?_
  refine t_callV C (rest := []) (c2 := cells + 30) (s2 := slots + 8828) (kd := 10) (i := 0) [] dL_law_606 lk_L_178 li_X11_fault le_X11_fault (c_X11_fault hfl (b_fault h)) rfl rfl (by decide) rfl ⟨_, rfl⟩ rfl ⟨Nat.le_of_ble_eq_true rfl, Nat.le_of_ble_eq_true rfl⟩ (Nat.le_of_ble_eq_true rfl) ⟨Nat.add_le_add_left (Nat.le_of_ble_eq_true rfl) _, Nat.add_le_add_left (Nat.le_of_ble_eq_true rfl) _, hc, hs⟩ (k_Ri fun r hw => ?_)
  refine z_aload_n C dL_law_609 (i := 2) rfl rfl ?_
  refine t_callV C (rest := [.int r]) (c2 := cells + 30) (s2 := slots + 8828) (kd := 100) (i := 0) [] dL_law_610 lk_L_181 li_X12_fault le_X12_fault (c_X12_fault hfl hw) rfl rfl (by decide) rfl ⟨_, rfl⟩ rfl ⟨Nat.le_of_ble_eq_true rfl, Nat.le_of_ble_eq_true rfl⟩ (Nat.le_of_ble_eq_true rfl) ⟨Nat.le_refl _, Nat.le_refl _, hc, hs⟩ (k_Wi fun b s2 hb => ?_)
  refine z_icmp_eq C dL_law_613 (tgt := 3262) (by decide) (fun _ => ?_) (fun z => absurd (hb.2.1 rfl).symm z)
  have hk := hK (Z.2.1 9) s2 hb.2.2
  rw [zZx_self] at hk
  exact t_drop [true, true, true, true, true, false, false, false] rfl hk
set_option maxHeartbeats 4000000 in
set_option maxRecDepth 100000 in
theorem law_7 {Z : zZ} {p : Program} {l : Launch} {e : Env} {s : State} {m : MethodId} {args : Array Value} {below : List Frame} {meth : Method} {c : Code} {ad0 : Nat → Nat} {h0 : zH} {Q : State → Prop} {L : Nat} {xs : Nat → Int32} {st : zTs} {i : Int32} {cells slots : Nat} {a1 : Int32} {a2 : Int32} (hfl : l.stackTraces = false) (C : zC Z p s m args meth c cL_law 8 RL) (X : zSx Z s L xs) (h : qR st) (x1 : vp_in (i + 1) L ∧ xs (i + 1).toNatClampNeg = a1) (x2 : vp_in (i + 2) L ∧ xs (i + 2).toNatClampNeg = a2) (hc : cells + 30 ≤ room_1.cells) (hs : slots + 8828 ≤ room_1.slots) (hK : ∀ x st1, qR st1 → zG Z ad0 h0 p l e room_1 s m args below meth c Q (cells + 30) (slots + 8828) (zh (zZx Z x) zm1 st1) 8 3262 [some (.ref 208), some (.ref 10), some (.ref 100), some (.ref 9), some (.int i), none, none, none] []) : zG Z ad0 h0 p l e room_1 s m args below meth c Q cells slots (zh Z zm1 st) 8 618 [some (.ref 208), some (.ref 10), some (.ref 100), some (.ref 9), some (.int i), none, none, none] [] := by
  refine z_aload_n C dL_law_618 (i := 1) rfl rfl ?_
  refine z_aload_n C dL_law_619 (i := 0) rfl rfl ?_
  refine z_iload C dL_law_620 (i := 4) rfl ?_
  refine z_iconst C dL_law_622 (v := 1) (by decide) ?_
  refine z_iadd C dL_law_623 ?_
  refine t_sld C X dL_law_624 x1.1 ?_
  rw [x1.2]
  refine z_aload_n C dL_law_625 (i := 0) rfl rfl ?_
  refine z_iload C dL_law_626 (i := 4) rfl ?_
  refine z_iconst C dL_law_628 (v := 2) (by decide) ?_
  refine z_iadd C dL_law_629 ?_
  refine t_sld C X dL_law_630 x2.1 ?_
  rw [x2.2]
  refine z_aload_n C dL_law_631 (i := 3) rfl rfl ?_
  refine t_callSO C (rest := []) (c2 := cells + 30) (s2 := slots + 8828) [.ref 10, .int a1, .int a2, .ref 9] dL_law_632 lw_L_counted (c_L_counted hfl (P1 := fun kc x s9 => ∃ r : Int32, (kc = 0 → x = zjn r.toInt64) ∧ w_X12_counted s9 a1 a2 (zOK kc r)) (b_counted h) (fun k9 hx => by rcases hx with ⟨rfl, hx⟩ | ⟨rfl, hx⟩ <;> first | exact Or.inl ⟨rfl, fun _ => ⟨0, fun z => absurd z (by decide), hx⟩⟩ | exact Or.inr (⟨rfl, fun _ => ⟨0, fun z => absurd z (by decide), hx⟩⟩)) (fun r hp => ⟨r, fun _ => rfl, hp⟩)) rfl rfl ⟨Nat.le_of_ble_eq_true rfl, Nat.le_of_ble_eq_true rfl⟩ (Nat.le_of_ble_eq_true rfl) ⟨Nat.add_le_add_left (Nat.le_of_ble_eq_true rfl) _, Nat.add_le_add_left (Nat.le_of_ble_eq_true rfl) _, hc, hs⟩ (k_Wx fun kc x s9 hp => ?_)
  obtain ⟨r, hx, hw⟩ := hp
  have C1 := zC_x C x
  have X1 : zSx (zZx Z x) s L xs := X
  refine z_istore C1 dL_law_635 (lc' := [some (.ref 208), some (.ref 10), some (.ref 100), some (.ref 9), some (.int i), some (.int kc), none, none]) (by decide) rfl ?_
  refine z_aload_n C1 dL_law_637 (i := 2) rfl rfl ?_
  refine z_aload_n C1 dL_law_638 (i := 0) rfl rfl ?_
  refine z_iload C1 dL_law_639 (i := 4) rfl ?_
  refine z_iconst C1 dL_law_641 (v := 1) (by decide) ?_
  refine z_iadd C1 dL_law_642 ?_
  refine t_sld C1 X1 dL_law_643 x1.1 ?_
  rw [x1.2]
  refine z_aload_n C1 dL_law_644 (i := 0) rfl rfl ?_
  refine z_iload C1 dL_law_645 (i := 4) rfl ?_
  refine z_iconst C1 dL_law_647 (v := 2) (by decide) ?_
  refine z_iadd C1 dL_law_648 ?_
  refine t_sld C1 X1 dL_law_649 x2.1 ?_
  rw [x2.2]
  refine t_callV C1 (rest := []) (c2 := cells + 30) (s2 := slots + 8828) (kd := 100) (i := 0) [.int a1, .int a2] dL_law_650 lk_L_184 li_X12_counted le_X12_counted (c_X12_counted hfl hw) rfl rfl (by decide) rfl ⟨_, rfl⟩ rfl ⟨Nat.le_of_ble_eq_true rfl, Nat.le_of_ble_eq_true rfl⟩ (Nat.le_of_ble_eq_true rfl) ⟨Nat.le_refl _, Nat.le_refl _, hc, hs⟩ (k_Wi fun b s2 hb => ?_)
  refine z_istore C1 dL_law_653 (lc' := [some (.ref 208), some (.ref 10), some (.ref 100), some (.ref 9), some (.int i), some (.int kc), some (.int b), none]) (by decide) rfl ?_
  refine z_aload_n C1 dL_law_655 (i := 2) rfl rfl ?_
  refine t_callV C1 (rest := []) (c2 := cells + 30) (s2 := slots + 8828) (kd := 100) (i := 0) [] dL_law_656 lk_L_156 li_X12_thrown le_X12_thrown (c_X12_thrown hfl (P := fun r => r = kc) hb.1) rfl rfl (by decide) rfl ⟨_, rfl⟩ rfl ⟨Nat.le_of_ble_eq_true rfl, Nat.le_of_ble_eq_true rfl⟩ (Nat.le_of_ble_eq_true rfl) ⟨Nat.le_refl _, Nat.le_refl _, hc, hs⟩ (k_Ri fun t ht => ?_)
  refine z_iload C1 dL_law_659 (i := 5) rfl ?_
  refine z_icmp_eq C1 dL_law_661 (tgt := 666) (by decide) (fun _ => ?_) (fun z => absurd ht z)
  refine z_iload C1 dL_law_666 (i := 5) rfl ?_
  refine z_if_ne C1 dL_law_668 (tgt := 683) (by decide) (fun _ => ?_) (fun k0 => ?_)
  · refine z_goto C1 dL_law_683 (tgt := 3262) (by decide) ?_
    exact t_drop [true, true, true, true, true, false, false, false] rfl (zG_y x (hK x s2 hb.2.2))
  · refine z_aload_n C1 dL_law_671 (i := 3) rfl rfl ?_
    refine z_iconst C1 dL_law_672 (v := 0) (by decide) ?_
    refine t_jld C1 dL_law_673 rfl ?_
    refine z_iload C1 dL_law_674 (i := 6) rfl ?_
    refine z_i2l C1 dL_law_676 ?_
    refine z_lcmp C1 dL_law_677 ?_
    refine z_if_eq C1 dL_law_678 (tgt := 683) (by decide) (fun _ => ?_) (fun z => absurd (by rw [hb.2.1 k0]; exact zcmp0 (hx k0)) z)
    refine z_goto C1 dL_law_683 (tgt := 3262) (by decide) ?_
    exact t_drop [true, true, true, true, true, false, false, false] rfl (zG_y x (hK x s2 hb.2.2))
set_option maxHeartbeats 4000000 in
set_option maxRecDepth 100000 in
theorem law_8 {Z : zZ} {p : Program} {l : Launch} {e : Env} {s : State} {m : MethodId} {args : Array Value} {below : List Frame} {meth : Method} {c : Code} {ad0 : Nat → Nat} {h0 : zH} {Q : State → Prop} {L : Nat} {xs : Nat → Int32} {st : zTs} {i : Int32} {cells slots : Nat} {a1 : Int32} {a2 : Int32} {a3 : Int32} {a4 : Int32} {a5 : Int32} {a6 : Int32} (hfl : l.stackTraces = false) (C : zC Z p s m args meth c cL_law 8 RL) (X : zSx Z s L xs) (h : qR st) (x1 : vp_in (i + 1) L ∧ xs (i + 1).toNatClampNeg = a1) (x2 : vp_in (i + 2) L ∧ xs (i + 2).toNatClampNeg = a2) (x3 : vp_in (i + 3) L ∧ xs (i + 3).toNatClampNeg = a3) (x4 : vp_in (i + 4) L ∧ xs (i + 4).toNatClampNeg = a4) (x5 : vp_in (i + 5) L ∧ xs (i + 5).toNatClampNeg = a5) (x6 : vp_in (i + 6) L ∧ xs (i + 6).toNatClampNeg = a6) (hc : cells + 30 ≤ room_1.cells) (hs : slots + 8828 ≤ room_1.slots) (hK : ∀ x st1, qR st1 → zG Z ad0 h0 p l e room_1 s m args below meth c Q (cells + 30) (slots + 8828) (zh (zZx Z x) zm1 st1) 8 3262 [some (.ref 208), some (.ref 10), some (.ref 100), some (.ref 9), some (.int i), none, none, none] []) : zG Z ad0 h0 p l e room_1 s m args below meth c Q cells slots (zh Z zm1 st) 8 686 [some (.ref 208), some (.ref 10), some (.ref 100), some (.ref 9), some (.int i), none, none, none] [] := by
  refine z_aload_n C dL_law_686 (i := 1) rfl rfl ?_
  refine z_aload_n C dL_law_687 (i := 0) rfl rfl ?_
  refine z_iload C dL_law_688 (i := 4) rfl ?_
  refine z_iconst C dL_law_690 (v := 1) (by decide) ?_
  refine z_iadd C dL_law_691 ?_
  refine t_sld C X dL_law_692 x1.1 ?_
  rw [x1.2]
  refine z_aload_n C dL_law_693 (i := 0) rfl rfl ?_
  refine z_iload C dL_law_694 (i := 4) rfl ?_
  refine z_iconst C dL_law_696 (v := 2) (by decide) ?_
  refine z_iadd C dL_law_697 ?_
  refine t_sld C X dL_law_698 x2.1 ?_
  rw [x2.2]
  refine z_aload_n C dL_law_699 (i := 0) rfl rfl ?_
  refine z_iload C dL_law_700 (i := 4) rfl ?_
  refine z_iconst C dL_law_702 (v := 3) (by decide) ?_
  refine z_iadd C dL_law_703 ?_
  refine t_sld C X dL_law_704 x3.1 ?_
  rw [x3.2]
  refine z_aload_n C dL_law_705 (i := 0) rfl rfl ?_
  refine z_iload C dL_law_706 (i := 4) rfl ?_
  refine z_iconst C dL_law_708 (v := 4) (by decide) ?_
  refine z_iadd C dL_law_709 ?_
  refine t_sld C X dL_law_710 x4.1 ?_
  rw [x4.2]
  refine z_aload_n C dL_law_711 (i := 0) rfl rfl ?_
  refine z_iload C dL_law_712 (i := 4) rfl ?_
  refine z_iconst C dL_law_714 (v := 5) (by decide) ?_
  refine z_iadd C dL_law_715 ?_
  refine t_sld C X dL_law_716 x5.1 ?_
  rw [x5.2]
  refine z_aload_n C dL_law_717 (i := 0) rfl rfl ?_
  refine z_iload C dL_law_718 (i := 4) rfl ?_
  refine z_bipush C dL_law_720 (v := 6) (by decide) ?_
  refine z_iadd C dL_law_722 ?_
  refine t_sld C X dL_law_723 x6.1 ?_
  rw [x6.2]
  refine z_aload_n C dL_law_724 (i := 3) rfl rfl ?_
  refine t_callSO C (rest := []) (c2 := cells + 30) (s2 := slots + 8828) [.ref 10, .int a1, .int a2, .int a3, .int a4, .int a5, .int a6, .ref 9] dL_law_725 lw_L_work (c_L_work hfl (P1 := fun kc x s9 => ∃ r : Int32, (kc = 0 → x = zjn r.toInt64) ∧ w_X12_work s9 a1 a2 a3 a4 a5 a6 (zOK kc r)) (b_work h) (fun k9 s9 hx => by rcases hx with ⟨rfl, hx⟩ | ⟨rfl, hx⟩ | ⟨rfl, hx⟩ <;> first | exact Or.inl ⟨rfl, fun _ => ⟨0, fun z => absurd z (by decide), hx⟩⟩ | exact Or.inr (Or.inl ⟨rfl, fun _ => ⟨0, fun z => absurd z (by decide), hx⟩⟩) | exact Or.inr (Or.inr (⟨rfl, fun _ => ⟨0, fun z => absurd z (by decide), hx⟩⟩))) (fun r s9 hp => ⟨r, fun _ => rfl, hp⟩)) rfl rfl ⟨Nat.le_of_ble_eq_true rfl, Nat.le_of_ble_eq_true rfl⟩ (Nat.le_of_ble_eq_true rfl) ⟨Nat.add_le_add_left (Nat.le_of_ble_eq_true rfl) _, Nat.add_le_add_left (Nat.le_of_ble_eq_true rfl) _, hc, hs⟩ (k_Wx fun kc x s9 hp => ?_)
  obtain ⟨r, hx, hw⟩ := hp
  have C1 := zC_x C x
  have X1 : zSx (zZx Z x) s L xs := X
  refine z_istore C1 dL_law_728 (lc' := [some (.ref 208), some (.ref 10), some (.ref 100), some (.ref 9), some (.int i), some (.int kc), none, none]) (by decide) rfl ?_
  refine z_aload_n C1 dL_law_730 (i := 2) rfl rfl ?_
  refine z_aload_n C1 dL_law_731 (i := 0) rfl rfl ?_
  refine z_iload C1 dL_law_732 (i := 4) rfl ?_
  refine z_iconst C1 dL_law_734 (v := 1) (by decide) ?_
  refine z_iadd C1 dL_law_735 ?_
  refine t_sld C1 X1 dL_law_736 x1.1 ?_
  rw [x1.2]
  refine z_aload_n C1 dL_law_737 (i := 0) rfl rfl ?_
  refine z_iload C1 dL_law_738 (i := 4) rfl ?_
  refine z_iconst C1 dL_law_740 (v := 2) (by decide) ?_
  refine z_iadd C1 dL_law_741 ?_
  refine t_sld C1 X1 dL_law_742 x2.1 ?_
  rw [x2.2]
  refine z_aload_n C1 dL_law_743 (i := 0) rfl rfl ?_
  refine z_iload C1 dL_law_744 (i := 4) rfl ?_
  refine z_iconst C1 dL_law_746 (v := 3) (by decide) ?_
  refine z_iadd C1 dL_law_747 ?_
  refine t_sld C1 X1 dL_law_748 x3.1 ?_
  rw [x3.2]
  refine z_aload_n C1 dL_law_749 (i := 0) rfl rfl ?_
  refine z_iload C1 dL_law_750 (i := 4) rfl ?_
  refine z_iconst C1 dL_law_752 (v := 4) (by decide) ?_
  refine z_iadd C1 dL_law_753 ?_
  refine t_sld C1 X1 dL_law_754 x4.1 ?_
  rw [x4.2]
  refine z_aload_n C1 dL_law_755 (i := 0) rfl rfl ?_
  refine z_iload C1 dL_law_756 (i := 4) rfl ?_
  refine z_iconst C1 dL_law_758 (v := 5) (by decide) ?_
  refine z_iadd C1 dL_law_759 ?_
  refine t_sld C1 X1 dL_law_760 x5.1 ?_
  rw [x5.2]
  refine z_aload_n C1 dL_law_761 (i := 0) rfl rfl ?_
  refine z_iload C1 dL_law_762 (i := 4) rfl ?_
  refine z_bipush C1 dL_law_764 (v := 6) (by decide) ?_
  refine z_iadd C1 dL_law_766 ?_
  refine t_sld C1 X1 dL_law_767 x6.1 ?_
  rw [x6.2]
  refine t_callV C1 (rest := []) (c2 := cells + 30) (s2 := slots + 8828) (kd := 100) (i := 0) [.int a1, .int a2, .int a3, .int a4, .int a5, .int a6] dL_law_768 lk_L_188 li_X12_work le_X12_work (c_X12_work hfl hw) rfl rfl (by decide) rfl ⟨_, rfl⟩ rfl ⟨Nat.le_of_ble_eq_true rfl, Nat.le_of_ble_eq_true rfl⟩ (Nat.le_of_ble_eq_true rfl) ⟨Nat.le_refl _, Nat.le_refl _, hc, hs⟩ (k_Wi fun b s2 hb => ?_)
  refine z_istore C1 dL_law_771 (lc' := [some (.ref 208), some (.ref 10), some (.ref 100), some (.ref 9), some (.int i), some (.int kc), some (.int b), none]) (by decide) rfl ?_
  refine z_aload_n C1 dL_law_773 (i := 2) rfl rfl ?_
  refine t_callV C1 (rest := []) (c2 := cells + 30) (s2 := slots + 8828) (kd := 100) (i := 0) [] dL_law_774 lk_L_156 li_X12_thrown le_X12_thrown (c_X12_thrown hfl (P := fun r => r = kc) hb.1) rfl rfl (by decide) rfl ⟨_, rfl⟩ rfl ⟨Nat.le_of_ble_eq_true rfl, Nat.le_of_ble_eq_true rfl⟩ (Nat.le_of_ble_eq_true rfl) ⟨Nat.le_refl _, Nat.le_refl _, hc, hs⟩ (k_Ri fun t ht => ?_)
  refine z_iload C1 dL_law_777 (i := 5) rfl ?_
  refine z_icmp_eq C1 dL_law_779 (tgt := 784) (by decide) (fun _ => ?_) (fun z => absurd ht z)
  refine z_iload C1 dL_law_784 (i := 5) rfl ?_
  refine z_if_ne C1 dL_law_786 (tgt := 801) (by decide) (fun _ => ?_) (fun k0 => ?_)
  · refine z_goto C1 dL_law_801 (tgt := 3262) (by decide) ?_
    exact t_drop [true, true, true, true, true, false, false, false] rfl (zG_y x (hK x s2 hb.2.2))
  · refine z_aload_n C1 dL_law_789 (i := 3) rfl rfl ?_
    refine z_iconst C1 dL_law_790 (v := 0) (by decide) ?_
    refine t_jld C1 dL_law_791 rfl ?_
    refine z_iload C1 dL_law_792 (i := 6) rfl ?_
    refine z_i2l C1 dL_law_794 ?_
    refine z_lcmp C1 dL_law_795 ?_
    refine z_if_eq C1 dL_law_796 (tgt := 801) (by decide) (fun _ => ?_) (fun z => absurd (by rw [hb.2.1 k0]; exact zcmp0 (hx k0)) z)
    refine z_goto C1 dL_law_801 (tgt := 3262) (by decide) ?_
    exact t_drop [true, true, true, true, true, false, false, false] rfl (zG_y x (hK x s2 hb.2.2))
set_option maxHeartbeats 4000000 in
set_option maxRecDepth 100000 in
theorem law_9 {Z : zZ} {p : Program} {l : Launch} {e : Env} {s : State} {m : MethodId} {args : Array Value} {below : List Frame} {meth : Method} {c : Code} {ad0 : Nat → Nat} {h0 : zH} {Q : State → Prop} {L : Nat} {xs : Nat → Int32} {st : zTs} {i : Int32} {cells slots : Nat} {a1 : Int32} (hfl : l.stackTraces = false) (C : zC Z p s m args meth c cL_law 8 RL) (X : zSx Z s L xs) (h : qR st) (x1 : vp_in (i + 1) L ∧ xs (i + 1).toNatClampNeg = a1) (hc : cells + 30 ≤ room_1.cells) (hs : slots + 8828 ≤ room_1.slots) (hK : ∀ x st1, qR st1 → zG Z ad0 h0 p l e room_1 s m args below meth c Q (cells + 30) (slots + 8828) (zh (zZx Z x) zm1 st1) 8 3262 [some (.ref 208), some (.ref 10), some (.ref 100), some (.ref 9), some (.int i), none, none, none] []) : zG Z ad0 h0 p l e room_1 s m args below meth c Q cells slots (zh Z zm1 st) 8 804 [some (.ref 208), some (.ref 10), some (.ref 100), some (.ref 9), some (.int i), none, none, none] [] := by
  refine z_aload_n C dL_law_804 (i := 1) rfl rfl ?_
  refine z_aload_n C dL_law_805 (i := 0) rfl rfl ?_
  refine z_iload C dL_law_806 (i := 4) rfl ?_
  refine z_iconst C dL_law_808 (v := 1) (by decide) ?_
  refine z_iadd C dL_law_809 ?_
  refine t_sld C X dL_law_810 x1.1 ?_
  rw [x1.2]
  refine z_aload_n C dL_law_811 (i := 3) rfl rfl ?_
  refine t_callSO C (rest := []) (c2 := cells + 30) (s2 := slots + 8828) [.ref 10, .int a1, .ref 9] dL_law_812 lw_L_state (c_L_state hfl (P1 := fun kc x s9 => ∃ r : Int32, (kc = 0 → x = zjn r.toInt64) ∧ w_X12_state s9 a1 (zOK kc r)) (b_state h) (fun k9 s9 hx => by obtain ⟨rfl, hx⟩ := hx; exact ⟨rfl, fun _ => ⟨0, fun z => absurd z (by decide), hx⟩⟩) (fun r s9 hp => ⟨r, fun _ => rfl, hp⟩)) rfl rfl ⟨Nat.le_of_ble_eq_true rfl, Nat.le_of_ble_eq_true rfl⟩ (Nat.le_of_ble_eq_true rfl) ⟨Nat.add_le_add_left (Nat.le_of_ble_eq_true rfl) _, Nat.add_le_add_left (Nat.le_of_ble_eq_true rfl) _, hc, hs⟩ (k_Wx fun kc x s9 hp => ?_)
  obtain ⟨r, hx, hw⟩ := hp
  have C1 := zC_x C x
  have X1 : zSx (zZx Z x) s L xs := X
  refine z_istore C1 dL_law_815 (lc' := [some (.ref 208), some (.ref 10), some (.ref 100), some (.ref 9), some (.int i), some (.int kc), none, none]) (by decide) rfl ?_
  refine z_aload_n C1 dL_law_817 (i := 2) rfl rfl ?_
  refine z_aload_n C1 dL_law_818 (i := 0) rfl rfl ?_
  refine z_iload C1 dL_law_819 (i := 4) rfl ?_
  refine z_iconst C1 dL_law_821 (v := 1) (by decide) ?_
  refine z_iadd C1 dL_law_822 ?_
  refine t_sld C1 X1 dL_law_823 x1.1 ?_
  rw [x1.2]
  refine t_callV C1 (rest := []) (c2 := cells + 30) (s2 := slots + 8828) (kd := 100) (i := 0) [.int a1] dL_law_824 lk_L_191 li_X12_state le_X12_state (c_X12_state hfl hw) rfl rfl (by decide) rfl ⟨_, rfl⟩ rfl ⟨Nat.le_of_ble_eq_true rfl, Nat.le_of_ble_eq_true rfl⟩ (Nat.le_of_ble_eq_true rfl) ⟨Nat.le_refl _, Nat.le_refl _, hc, hs⟩ (k_Wi fun b s2 hb => ?_)
  refine z_istore C1 dL_law_827 (lc' := [some (.ref 208), some (.ref 10), some (.ref 100), some (.ref 9), some (.int i), some (.int kc), some (.int b), none]) (by decide) rfl ?_
  refine z_aload_n C1 dL_law_829 (i := 2) rfl rfl ?_
  refine t_callV C1 (rest := []) (c2 := cells + 30) (s2 := slots + 8828) (kd := 100) (i := 0) [] dL_law_830 lk_L_156 li_X12_thrown le_X12_thrown (c_X12_thrown hfl (P := fun r => r = kc) hb.1) rfl rfl (by decide) rfl ⟨_, rfl⟩ rfl ⟨Nat.le_of_ble_eq_true rfl, Nat.le_of_ble_eq_true rfl⟩ (Nat.le_of_ble_eq_true rfl) ⟨Nat.le_refl _, Nat.le_refl _, hc, hs⟩ (k_Ri fun t ht => ?_)
  refine z_iload C1 dL_law_833 (i := 5) rfl ?_
  refine z_icmp_eq C1 dL_law_835 (tgt := 840) (by decide) (fun _ => ?_) (fun z => absurd ht z)
  refine z_iload C1 dL_law_840 (i := 5) rfl ?_
  refine z_if_ne C1 dL_law_842 (tgt := 857) (by decide) (fun _ => ?_) (fun k0 => ?_)
  · refine z_goto C1 dL_law_857 (tgt := 3262) (by decide) ?_
    exact t_drop [true, true, true, true, true, false, false, false] rfl (zG_y x (hK x s2 hb.2.2))
  · refine z_aload_n C1 dL_law_845 (i := 3) rfl rfl ?_
    refine z_iconst C1 dL_law_846 (v := 0) (by decide) ?_
    refine t_jld C1 dL_law_847 rfl ?_
    refine z_iload C1 dL_law_848 (i := 6) rfl ?_
    refine z_i2l C1 dL_law_850 ?_
    refine z_lcmp C1 dL_law_851 ?_
    refine z_if_eq C1 dL_law_852 (tgt := 857) (by decide) (fun _ => ?_) (fun z => absurd (by rw [hb.2.1 k0]; exact zcmp0 (hx k0)) z)
    refine z_goto C1 dL_law_857 (tgt := 3262) (by decide) ?_
    exact t_drop [true, true, true, true, true, false, false, false] rfl (zG_y x (hK x s2 hb.2.2))
set_option maxHeartbeats 4000000 in
set_option maxRecDepth 100000 in
theorem law_10 {Z : zZ} {p : Program} {l : Launch} {e : Env} {s : State} {m : MethodId} {args : Array Value} {below : List Frame} {meth : Method} {c : Code} {ad0 : Nat → Nat} {h0 : zH} {Q : State → Prop} {L : Nat} {xs : Nat → Int32} {st : zTs} {i : Int32} {cells slots : Nat} {a1 : Int32} (hfl : l.stackTraces = false) (C : zC Z p s m args meth c cL_law 8 RL) (X : zSx Z s L xs) (h : qR st) (x1 : vp_in (i + 1) L ∧ xs (i + 1).toNatClampNeg = a1) (hc : cells + 30 ≤ room_1.cells) (hs : slots + 8828 ≤ room_1.slots) (hK : ∀ x st1, qR st1 → zG Z ad0 h0 p l e room_1 s m args below meth c Q (cells + 30) (slots + 8828) (zh (zZx Z x) zm1 st1) 8 3262 [some (.ref 208), some (.ref 10), some (.ref 100), some (.ref 9), some (.int i), none, none, none] []) : zG Z ad0 h0 p l e room_1 s m args below meth c Q cells slots (zh Z zm1 st) 8 860 [some (.ref 208), some (.ref 10), some (.ref 100), some (.ref 9), some (.int i), none, none, none] [] := by
  refine z_aload_n C dL_law_860 (i := 1) rfl rfl ?_
  refine z_aload_n C dL_law_861 (i := 0) rfl rfl ?_
  refine z_iload C dL_law_862 (i := 4) rfl ?_
  refine z_iconst C dL_law_864 (v := 1) (by decide) ?_
  refine z_iadd C dL_law_865 ?_
  refine t_sld C X dL_law_866 x1.1 ?_
  rw [x1.2]
  refine z_aload_n C dL_law_867 (i := 3) rfl rfl ?_
  refine t_callSO C (rest := []) (c2 := cells + 30) (s2 := slots + 8828) [.ref 10, .int a1, .ref 9] dL_law_868 lw_L_notice (c_L_notice hfl (P1 := fun kc x s9 => ∃ r : Int32, (kc = 0 → x = zjn r.toInt64) ∧ w_X12_notice s9 a1 (zOK kc r)) (b_notice h) (fun k9 s9 hx => by obtain ⟨rfl, hx⟩ := hx; exact ⟨rfl, fun _ => ⟨0, fun z => absurd z (by decide), hx⟩⟩) (fun r s9 hp => ⟨r, fun _ => rfl, hp⟩)) rfl rfl ⟨Nat.le_of_ble_eq_true rfl, Nat.le_of_ble_eq_true rfl⟩ (Nat.le_of_ble_eq_true rfl) ⟨Nat.add_le_add_left (Nat.le_of_ble_eq_true rfl) _, Nat.add_le_add_left (Nat.le_of_ble_eq_true rfl) _, hc, hs⟩ (k_Wx fun kc x s9 hp => ?_)
  obtain ⟨r, hx, hw⟩ := hp
  have C1 := zC_x C x
  have X1 : zSx (zZx Z x) s L xs := X
  refine z_istore C1 dL_law_871 (lc' := [some (.ref 208), some (.ref 10), some (.ref 100), some (.ref 9), some (.int i), some (.int kc), none, none]) (by decide) rfl ?_
  refine z_aload_n C1 dL_law_873 (i := 2) rfl rfl ?_
  refine z_aload_n C1 dL_law_874 (i := 0) rfl rfl ?_
  refine z_iload C1 dL_law_875 (i := 4) rfl ?_
  refine z_iconst C1 dL_law_877 (v := 1) (by decide) ?_
  refine z_iadd C1 dL_law_878 ?_
  refine t_sld C1 X1 dL_law_879 x1.1 ?_
  rw [x1.2]
  refine t_callV C1 (rest := []) (c2 := cells + 30) (s2 := slots + 8828) (kd := 100) (i := 0) [.int a1] dL_law_880 lk_L_194 li_X12_notice le_X12_notice (c_X12_notice hfl hw) rfl rfl (by decide) rfl ⟨_, rfl⟩ rfl ⟨Nat.le_of_ble_eq_true rfl, Nat.le_of_ble_eq_true rfl⟩ (Nat.le_of_ble_eq_true rfl) ⟨Nat.le_refl _, Nat.le_refl _, hc, hs⟩ (k_Wi fun b s2 hb => ?_)
  refine z_istore C1 dL_law_883 (lc' := [some (.ref 208), some (.ref 10), some (.ref 100), some (.ref 9), some (.int i), some (.int kc), some (.int b), none]) (by decide) rfl ?_
  refine z_aload_n C1 dL_law_885 (i := 2) rfl rfl ?_
  refine t_callV C1 (rest := []) (c2 := cells + 30) (s2 := slots + 8828) (kd := 100) (i := 0) [] dL_law_886 lk_L_156 li_X12_thrown le_X12_thrown (c_X12_thrown hfl (P := fun r => r = kc) hb.1) rfl rfl (by decide) rfl ⟨_, rfl⟩ rfl ⟨Nat.le_of_ble_eq_true rfl, Nat.le_of_ble_eq_true rfl⟩ (Nat.le_of_ble_eq_true rfl) ⟨Nat.le_refl _, Nat.le_refl _, hc, hs⟩ (k_Ri fun t ht => ?_)
  refine z_iload C1 dL_law_889 (i := 5) rfl ?_
  refine z_icmp_eq C1 dL_law_891 (tgt := 896) (by decide) (fun _ => ?_) (fun z => absurd ht z)
  refine z_iload C1 dL_law_896 (i := 5) rfl ?_
  refine z_if_ne C1 dL_law_898 (tgt := 913) (by decide) (fun _ => ?_) (fun k0 => ?_)
  · refine z_goto C1 dL_law_913 (tgt := 3262) (by decide) ?_
    exact t_drop [true, true, true, true, true, false, false, false] rfl (zG_y x (hK x s2 hb.2.2))
  · refine z_aload_n C1 dL_law_901 (i := 3) rfl rfl ?_
    refine z_iconst C1 dL_law_902 (v := 0) (by decide) ?_
    refine t_jld C1 dL_law_903 rfl ?_
    refine z_iload C1 dL_law_904 (i := 6) rfl ?_
    refine z_i2l C1 dL_law_906 ?_
    refine z_lcmp C1 dL_law_907 ?_
    refine z_if_eq C1 dL_law_908 (tgt := 913) (by decide) (fun _ => ?_) (fun z => absurd (by rw [hb.2.1 k0]; exact zcmp0 (hx k0)) z)
    refine z_goto C1 dL_law_913 (tgt := 3262) (by decide) ?_
    exact t_drop [true, true, true, true, true, false, false, false] rfl (zG_y x (hK x s2 hb.2.2))
set_option maxHeartbeats 4000000 in
set_option maxRecDepth 100000 in
theorem law_11 {Z : zZ} {p : Program} {l : Launch} {e : Env} {s : State} {m : MethodId} {args : Array Value} {below : List Frame} {meth : Method} {c : Code} {ad0 : Nat → Nat} {h0 : zH} {Q : State → Prop} {L : Nat} {xs : Nat → Int32} {st : zTs} {i : Int32} {cells slots : Nat} {a1 : Int32} {a2 : Int32} (hfl : l.stackTraces = false) (C : zC Z p s m args meth c cL_law 8 RL) (X : zSx Z s L xs) (h : qR st) (x1 : vp_in (i + 1) L ∧ xs (i + 1).toNatClampNeg = a1) (x2 : vp_in (i + 2) L ∧ xs (i + 2).toNatClampNeg = a2) (hc : cells + 30 ≤ room_1.cells) (hs : slots + 8828 ≤ room_1.slots) (hK : ∀ x st1, qR st1 → zG Z ad0 h0 p l e room_1 s m args below meth c Q (cells + 30) (slots + 8828) (zh (zZx Z x) zm1 st1) 8 3262 [some (.ref 208), some (.ref 10), some (.ref 100), some (.ref 9), some (.int i), none, none, none] []) : zG Z ad0 h0 p l e room_1 s m args below meth c Q cells slots (zh Z zm1 st) 8 916 [some (.ref 208), some (.ref 10), some (.ref 100), some (.ref 9), some (.int i), none, none, none] [] := by
  refine z_aload_n C dL_law_916 (i := 1) rfl rfl ?_
  refine z_aload_n C dL_law_917 (i := 0) rfl rfl ?_
  refine z_iload C dL_law_918 (i := 4) rfl ?_
  refine z_iconst C dL_law_920 (v := 1) (by decide) ?_
  refine z_iadd C dL_law_921 ?_
  refine t_sld C X dL_law_922 x1.1 ?_
  rw [x1.2]
  refine z_aload_n C dL_law_923 (i := 0) rfl rfl ?_
  refine z_iload C dL_law_924 (i := 4) rfl ?_
  refine z_iconst C dL_law_926 (v := 2) (by decide) ?_
  refine z_iadd C dL_law_927 ?_
  refine t_sld C X dL_law_928 x2.1 ?_
  rw [x2.2]
  refine z_if_eq C dL_law_929 (tgt := 936) (by decide) (fun ca2 => ?_) (fun ca2 => ?_)
  · refine z_iconst C dL_law_936 (v := 0) (by decide) ?_
    refine z_aload_n C dL_law_937 (i := 3) rfl rfl ?_
    refine t_callSO C (rest := []) (c2 := cells + 30) (s2 := slots + 8828) [.ref 10, .int a1, .int 0, .ref 9] dL_law_938 lw_L_answer (c_L_answer hfl (P1 := fun kc x s9 => ∃ r : Int32, (kc = 0 → x = zjn r.toInt64) ∧ w_X12_answer s9 a1 0 (zOK kc r)) (b_answer h) (fun k9 s9 hx => by obtain ⟨rfl, hx⟩ := hx; exact ⟨rfl, fun _ => ⟨0, fun z => absurd z (by decide), hx⟩⟩) (fun r s9 hp => ⟨r, fun _ => rfl, hp⟩)) rfl rfl ⟨Nat.le_of_ble_eq_true rfl, Nat.le_of_ble_eq_true rfl⟩ (Nat.le_of_ble_eq_true rfl) ⟨Nat.add_le_add_left (Nat.le_of_ble_eq_true rfl) _, Nat.add_le_add_left (Nat.le_of_ble_eq_true rfl) _, hc, hs⟩ (k_Wx fun kc x s9 hp => ?_)
    obtain ⟨r, hx, hw⟩ := hp
    have C1 := zC_x C x
    have X1 : zSx (zZx Z x) s L xs := X
    refine z_istore C1 dL_law_941 (lc' := [some (.ref 208), some (.ref 10), some (.ref 100), some (.ref 9), some (.int i), some (.int kc), none, none]) (by decide) rfl ?_
    refine z_aload_n C1 dL_law_943 (i := 2) rfl rfl ?_
    refine z_aload_n C1 dL_law_944 (i := 0) rfl rfl ?_
    refine z_iload C1 dL_law_945 (i := 4) rfl ?_
    refine z_iconst C1 dL_law_947 (v := 1) (by decide) ?_
    refine z_iadd C1 dL_law_948 ?_
    refine t_sld C1 X1 dL_law_949 x1.1 ?_
    rw [x1.2]
    refine z_aload_n C1 dL_law_950 (i := 0) rfl rfl ?_
    refine z_iload C1 dL_law_951 (i := 4) rfl ?_
    refine z_iconst C1 dL_law_953 (v := 2) (by decide) ?_
    refine z_iadd C1 dL_law_954 ?_
    refine t_sld C1 X1 dL_law_955 x2.1 ?_
    rw [x2.2]
    refine z_if_eq C1 dL_law_956 (tgt := 963) (by decide) (fun _ => ?_) (fun z => absurd ca2 z)
    refine z_iconst C1 dL_law_963 (v := 0) (by decide) ?_
    refine t_callV C1 (rest := []) (c2 := cells + 30) (s2 := slots + 8828) (kd := 100) (i := 0) [.int a1, .int 0] dL_law_964 lk_L_198 li_X12_answer le_X12_answer (c_X12_answer hfl hw) rfl rfl (by decide) rfl ⟨_, rfl⟩ rfl ⟨Nat.le_of_ble_eq_true rfl, Nat.le_of_ble_eq_true rfl⟩ (Nat.le_of_ble_eq_true rfl) ⟨Nat.le_refl _, Nat.le_refl _, hc, hs⟩ (k_Wi fun b s2 hb => ?_)
    refine z_istore C1 dL_law_967 (lc' := [some (.ref 208), some (.ref 10), some (.ref 100), some (.ref 9), some (.int i), some (.int kc), some (.int b), none]) (by decide) rfl ?_
    refine z_aload_n C1 dL_law_969 (i := 2) rfl rfl ?_
    refine t_callV C1 (rest := []) (c2 := cells + 30) (s2 := slots + 8828) (kd := 100) (i := 0) [] dL_law_970 lk_L_156 li_X12_thrown le_X12_thrown (c_X12_thrown hfl (P := fun r => r = kc) hb.1) rfl rfl (by decide) rfl ⟨_, rfl⟩ rfl ⟨Nat.le_of_ble_eq_true rfl, Nat.le_of_ble_eq_true rfl⟩ (Nat.le_of_ble_eq_true rfl) ⟨Nat.le_refl _, Nat.le_refl _, hc, hs⟩ (k_Ri fun t ht => ?_)
    refine z_iload C1 dL_law_973 (i := 5) rfl ?_
    refine z_icmp_eq C1 dL_law_975 (tgt := 980) (by decide) (fun _ => ?_) (fun z => absurd ht z)
    refine z_iload C1 dL_law_980 (i := 5) rfl ?_
    refine z_if_ne C1 dL_law_982 (tgt := 997) (by decide) (fun _ => ?_) (fun k0 => ?_)
    · refine z_goto C1 dL_law_997 (tgt := 3262) (by decide) ?_
      exact t_drop [true, true, true, true, true, false, false, false] rfl (zG_y x (hK x s2 hb.2.2))
    · refine z_aload_n C1 dL_law_985 (i := 3) rfl rfl ?_
      refine z_iconst C1 dL_law_986 (v := 0) (by decide) ?_
      refine t_jld C1 dL_law_987 rfl ?_
      refine z_iload C1 dL_law_988 (i := 6) rfl ?_
      refine z_i2l C1 dL_law_990 ?_
      refine z_lcmp C1 dL_law_991 ?_
      refine z_if_eq C1 dL_law_992 (tgt := 997) (by decide) (fun _ => ?_) (fun z => absurd (by rw [hb.2.1 k0]; exact zcmp0 (hx k0)) z)
      refine z_goto C1 dL_law_997 (tgt := 3262) (by decide) ?_
      exact t_drop [true, true, true, true, true, false, false, false] rfl (zG_y x (hK x s2 hb.2.2))
  · refine z_iconst C dL_law_932 (v := 1) (by decide) ?_
    refine z_goto C dL_law_933 (tgt := 937) (by decide) ?_
    refine z_aload_n C dL_law_937 (i := 3) rfl rfl ?_
    refine t_callSO C (rest := []) (c2 := cells + 30) (s2 := slots + 8828) [.ref 10, .int a1, .int 1, .ref 9] dL_law_938 lw_L_answer (c_L_answer hfl (P1 := fun kc x s9 => ∃ r : Int32, (kc = 0 → x = zjn r.toInt64) ∧ w_X12_answer s9 a1 1 (zOK kc r)) (b_answer h) (fun k9 s9 hx => by obtain ⟨rfl, hx⟩ := hx; exact ⟨rfl, fun _ => ⟨0, fun z => absurd z (by decide), hx⟩⟩) (fun r s9 hp => ⟨r, fun _ => rfl, hp⟩)) rfl rfl ⟨Nat.le_of_ble_eq_true rfl, Nat.le_of_ble_eq_true rfl⟩ (Nat.le_of_ble_eq_true rfl) ⟨Nat.add_le_add_left (Nat.le_of_ble_eq_true rfl) _, Nat.add_le_add_left (Nat.le_of_ble_eq_true rfl) _, hc, hs⟩ (k_Wx fun kc x s9 hp => ?_)
    obtain ⟨r, hx, hw⟩ := hp
    have C1 := zC_x C x
    have X1 : zSx (zZx Z x) s L xs := X
    refine z_istore C1 dL_law_941 (lc' := [some (.ref 208), some (.ref 10), some (.ref 100), some (.ref 9), some (.int i), some (.int kc), none, none]) (by decide) rfl ?_
    refine z_aload_n C1 dL_law_943 (i := 2) rfl rfl ?_
    refine z_aload_n C1 dL_law_944 (i := 0) rfl rfl ?_
    refine z_iload C1 dL_law_945 (i := 4) rfl ?_
    refine z_iconst C1 dL_law_947 (v := 1) (by decide) ?_
    refine z_iadd C1 dL_law_948 ?_
    refine t_sld C1 X1 dL_law_949 x1.1 ?_
    rw [x1.2]
    refine z_aload_n C1 dL_law_950 (i := 0) rfl rfl ?_
    refine z_iload C1 dL_law_951 (i := 4) rfl ?_
    refine z_iconst C1 dL_law_953 (v := 2) (by decide) ?_
    refine z_iadd C1 dL_law_954 ?_
    refine t_sld C1 X1 dL_law_955 x2.1 ?_
    rw [x2.2]
    refine z_if_eq C1 dL_law_956 (tgt := 963) (by decide) (fun z => absurd z ca2) (fun _ => ?_)
    refine z_iconst C1 dL_law_959 (v := 1) (by decide) ?_
    refine z_goto C1 dL_law_960 (tgt := 964) (by decide) ?_
    refine t_callV C1 (rest := []) (c2 := cells + 30) (s2 := slots + 8828) (kd := 100) (i := 0) [.int a1, .int 1] dL_law_964 lk_L_198 li_X12_answer le_X12_answer (c_X12_answer hfl hw) rfl rfl (by decide) rfl ⟨_, rfl⟩ rfl ⟨Nat.le_of_ble_eq_true rfl, Nat.le_of_ble_eq_true rfl⟩ (Nat.le_of_ble_eq_true rfl) ⟨Nat.le_refl _, Nat.le_refl _, hc, hs⟩ (k_Wi fun b s2 hb => ?_)
    refine z_istore C1 dL_law_967 (lc' := [some (.ref 208), some (.ref 10), some (.ref 100), some (.ref 9), some (.int i), some (.int kc), some (.int b), none]) (by decide) rfl ?_
    refine z_aload_n C1 dL_law_969 (i := 2) rfl rfl ?_
    refine t_callV C1 (rest := []) (c2 := cells + 30) (s2 := slots + 8828) (kd := 100) (i := 0) [] dL_law_970 lk_L_156 li_X12_thrown le_X12_thrown (c_X12_thrown hfl (P := fun r => r = kc) hb.1) rfl rfl (by decide) rfl ⟨_, rfl⟩ rfl ⟨Nat.le_of_ble_eq_true rfl, Nat.le_of_ble_eq_true rfl⟩ (Nat.le_of_ble_eq_true rfl) ⟨Nat.le_refl _, Nat.le_refl _, hc, hs⟩ (k_Ri fun t ht => ?_)
    refine z_iload C1 dL_law_973 (i := 5) rfl ?_
    refine z_icmp_eq C1 dL_law_975 (tgt := 980) (by decide) (fun _ => ?_) (fun z => absurd ht z)
    refine z_iload C1 dL_law_980 (i := 5) rfl ?_
    refine z_if_ne C1 dL_law_982 (tgt := 997) (by decide) (fun _ => ?_) (fun k0 => ?_)
    · refine z_goto C1 dL_law_997 (tgt := 3262) (by decide) ?_
      exact t_drop [true, true, true, true, true, false, false, false] rfl (zG_y x (hK x s2 hb.2.2))
    · refine z_aload_n C1 dL_law_985 (i := 3) rfl rfl ?_
      refine z_iconst C1 dL_law_986 (v := 0) (by decide) ?_
      refine t_jld C1 dL_law_987 rfl ?_
      refine z_iload C1 dL_law_988 (i := 6) rfl ?_
      refine z_i2l C1 dL_law_990 ?_
      refine z_lcmp C1 dL_law_991 ?_
      refine z_if_eq C1 dL_law_992 (tgt := 997) (by decide) (fun _ => ?_) (fun z => absurd (by rw [hb.2.1 k0]; exact zcmp0 (hx k0)) z)
      refine z_goto C1 dL_law_997 (tgt := 3262) (by decide) ?_
      exact t_drop [true, true, true, true, true, false, false, false] rfl (zG_y x (hK x s2 hb.2.2))
set_option maxHeartbeats 4000000 in
set_option maxRecDepth 100000 in
theorem law_12 {Z : zZ} {p : Program} {l : Launch} {e : Env} {s : State} {m : MethodId} {args : Array Value} {below : List Frame} {meth : Method} {c : Code} {ad0 : Nat → Nat} {h0 : zH} {Q : State → Prop} {L : Nat} {xs : Nat → Int32} {st : zTs} {i : Int32} {cells slots : Nat} {a1 : Int32} {a2 : Int32} (hfl : l.stackTraces = false) (C : zC Z p s m args meth c cL_law 8 RL) (X : zSx Z s L xs) (h : qR st) (x1 : vp_in (i + 1) L ∧ xs (i + 1).toNatClampNeg = a1) (x2 : vp_in (i + 2) L ∧ xs (i + 2).toNatClampNeg = a2) (hc : cells + 30 ≤ room_1.cells) (hs : slots + 8828 ≤ room_1.slots) (hK : ∀ x st1, qR st1 → zG Z ad0 h0 p l e room_1 s m args below meth c Q (cells + 30) (slots + 8828) (zh (zZx Z x) zm1 st1) 8 3262 [some (.ref 208), some (.ref 10), some (.ref 100), some (.ref 9), some (.int i), none, none, none] []) : zG Z ad0 h0 p l e room_1 s m args below meth c Q cells slots (zh Z zm1 st) 8 1000 [some (.ref 208), some (.ref 10), some (.ref 100), some (.ref 9), some (.int i), none, none, none] [] := by
  refine z_aload_n C dL_law_1000 (i := 1) rfl rfl ?_
  refine z_aload_n C dL_law_1001 (i := 0) rfl rfl ?_
  refine z_iload C dL_law_1002 (i := 4) rfl ?_
  refine z_iconst C dL_law_1004 (v := 1) (by decide) ?_
  refine z_iadd C dL_law_1005 ?_
  refine t_sld C X dL_law_1006 x1.1 ?_
  rw [x1.2]
  refine z_aload_n C dL_law_1007 (i := 0) rfl rfl ?_
  refine z_iload C dL_law_1008 (i := 4) rfl ?_
  refine z_iconst C dL_law_1010 (v := 2) (by decide) ?_
  refine z_iadd C dL_law_1011 ?_
  refine t_sld C X dL_law_1012 x2.1 ?_
  rw [x2.2]
  refine z_aload_n C dL_law_1013 (i := 3) rfl rfl ?_
  refine t_callSO C (rest := []) (c2 := cells + 30) (s2 := slots + 8828) [.ref 10, .int a1, .int a2, .ref 9] dL_law_1014 lw_L_told (c_L_told hfl (P1 := fun kc x s9 => ∃ r : Int32, (kc = 0 → x = zjn r.toInt64) ∧ w_X12_told s9 a1 a2 (zOK kc r)) (b_told h) (fun k9 s9 hx => by rcases hx with ⟨rfl, hx⟩ | ⟨rfl, hx⟩ <;> first | exact Or.inl ⟨rfl, fun _ => ⟨0, fun z => absurd z (by decide), hx⟩⟩ | exact Or.inr (⟨rfl, fun _ => ⟨0, fun z => absurd z (by decide), hx⟩⟩)) (fun r s9 hp => ⟨r, fun _ => rfl, hp⟩)) rfl rfl ⟨Nat.le_of_ble_eq_true rfl, Nat.le_of_ble_eq_true rfl⟩ (Nat.le_of_ble_eq_true rfl) ⟨Nat.add_le_add_left (Nat.le_of_ble_eq_true rfl) _, Nat.add_le_add_left (Nat.le_of_ble_eq_true rfl) _, hc, hs⟩ (k_Wx fun kc x s9 hp => ?_)
  obtain ⟨r, hx, hw⟩ := hp
  have C1 := zC_x C x
  have X1 : zSx (zZx Z x) s L xs := X
  refine z_istore C1 dL_law_1017 (lc' := [some (.ref 208), some (.ref 10), some (.ref 100), some (.ref 9), some (.int i), some (.int kc), none, none]) (by decide) rfl ?_
  refine z_aload_n C1 dL_law_1019 (i := 2) rfl rfl ?_
  refine z_aload_n C1 dL_law_1020 (i := 0) rfl rfl ?_
  refine z_iload C1 dL_law_1021 (i := 4) rfl ?_
  refine z_iconst C1 dL_law_1023 (v := 1) (by decide) ?_
  refine z_iadd C1 dL_law_1024 ?_
  refine t_sld C1 X1 dL_law_1025 x1.1 ?_
  rw [x1.2]
  refine z_aload_n C1 dL_law_1026 (i := 0) rfl rfl ?_
  refine z_iload C1 dL_law_1027 (i := 4) rfl ?_
  refine z_iconst C1 dL_law_1029 (v := 2) (by decide) ?_
  refine z_iadd C1 dL_law_1030 ?_
  refine t_sld C1 X1 dL_law_1031 x2.1 ?_
  rw [x2.2]
  refine t_callV C1 (rest := []) (c2 := cells + 30) (s2 := slots + 8828) (kd := 100) (i := 0) [.int a1, .int a2] dL_law_1032 lk_L_201 li_X12_told le_X12_told (c_X12_told hfl hw) rfl rfl (by decide) rfl ⟨_, rfl⟩ rfl ⟨Nat.le_of_ble_eq_true rfl, Nat.le_of_ble_eq_true rfl⟩ (Nat.le_of_ble_eq_true rfl) ⟨Nat.le_refl _, Nat.le_refl _, hc, hs⟩ (k_Wi fun b s2 hb => ?_)
  refine z_istore C1 dL_law_1035 (lc' := [some (.ref 208), some (.ref 10), some (.ref 100), some (.ref 9), some (.int i), some (.int kc), some (.int b), none]) (by decide) rfl ?_
  refine z_aload_n C1 dL_law_1037 (i := 2) rfl rfl ?_
  refine t_callV C1 (rest := []) (c2 := cells + 30) (s2 := slots + 8828) (kd := 100) (i := 0) [] dL_law_1038 lk_L_156 li_X12_thrown le_X12_thrown (c_X12_thrown hfl (P := fun r => r = kc) hb.1) rfl rfl (by decide) rfl ⟨_, rfl⟩ rfl ⟨Nat.le_of_ble_eq_true rfl, Nat.le_of_ble_eq_true rfl⟩ (Nat.le_of_ble_eq_true rfl) ⟨Nat.le_refl _, Nat.le_refl _, hc, hs⟩ (k_Ri fun t ht => ?_)
  refine z_iload C1 dL_law_1041 (i := 5) rfl ?_
  refine z_icmp_eq C1 dL_law_1043 (tgt := 1048) (by decide) (fun _ => ?_) (fun z => absurd ht z)
  refine z_iload C1 dL_law_1048 (i := 5) rfl ?_
  refine z_if_ne C1 dL_law_1050 (tgt := 1065) (by decide) (fun _ => ?_) (fun k0 => ?_)
  · refine z_goto C1 dL_law_1065 (tgt := 3262) (by decide) ?_
    exact t_drop [true, true, true, true, true, false, false, false] rfl (zG_y x (hK x s2 hb.2.2))
  · refine z_aload_n C1 dL_law_1053 (i := 3) rfl rfl ?_
    refine z_iconst C1 dL_law_1054 (v := 0) (by decide) ?_
    refine t_jld C1 dL_law_1055 rfl ?_
    refine z_iload C1 dL_law_1056 (i := 6) rfl ?_
    refine z_i2l C1 dL_law_1058 ?_
    refine z_lcmp C1 dL_law_1059 ?_
    refine z_if_eq C1 dL_law_1060 (tgt := 1065) (by decide) (fun _ => ?_) (fun z => absurd (by rw [hb.2.1 k0]; exact zcmp0 (hx k0)) z)
    refine z_goto C1 dL_law_1065 (tgt := 3262) (by decide) ?_
    exact t_drop [true, true, true, true, true, false, false, false] rfl (zG_y x (hK x s2 hb.2.2))
set_option maxHeartbeats 4000000 in
set_option maxRecDepth 100000 in
theorem law_13 {Z : zZ} {p : Program} {l : Launch} {e : Env} {s : State} {m : MethodId} {args : Array Value} {below : List Frame} {meth : Method} {c : Code} {ad0 : Nat → Nat} {h0 : zH} {Q : State → Prop} {L : Nat} {xs : Nat → Int32} {st : zTs} {i : Int32} {cells slots : Nat} {a1 : Int32} (hfl : l.stackTraces = false) (C : zC Z p s m args meth c cL_law 8 RL) (X : zSx Z s L xs) (h : qR st) (x1 : vp_in (i + 1) L ∧ xs (i + 1).toNatClampNeg = a1) (hc : cells + 30 ≤ room_1.cells) (hs : slots + 8828 ≤ room_1.slots) (hK : ∀ x st1, qR st1 → zG Z ad0 h0 p l e room_1 s m args below meth c Q (cells + 30) (slots + 8828) (zh (zZx Z x) zm1 st1) 8 3262 [some (.ref 208), some (.ref 10), some (.ref 100), some (.ref 9), some (.int i), none, none, none] []) : zG Z ad0 h0 p l e room_1 s m args below meth c Q cells slots (zh Z zm1 st) 8 1068 [some (.ref 208), some (.ref 10), some (.ref 100), some (.ref 9), some (.int i), none, none, none] [] := by
  refine z_aload_n C dL_law_1068 (i := 1) rfl rfl ?_
  refine z_aload_n C dL_law_1069 (i := 0) rfl rfl ?_
  refine z_iload C dL_law_1070 (i := 4) rfl ?_
  refine z_iconst C dL_law_1072 (v := 1) (by decide) ?_
  refine z_iadd C dL_law_1073 ?_
  refine t_sld C X dL_law_1074 x1.1 ?_
  rw [x1.2]
  refine z_aload_n C dL_law_1075 (i := 3) rfl rfl ?_
  refine t_callSO C (rest := []) (c2 := cells + 30) (s2 := slots + 8828) [.ref 10, .int a1, .ref 9] dL_law_1076 lw_L_surveyor (c_L_surveyor hfl (P1 := fun kc x s9 => ∃ r : Int32, (kc = 0 → x = zjn r.toInt64) ∧ w_X12_surveyor s9 a1 (zOK kc r)) (b_surveyor h) (fun k9 s9 hx => by rcases hx with ⟨rfl, hx⟩ | ⟨rfl, hx⟩ <;> first | exact Or.inl ⟨rfl, fun _ => ⟨0, fun z => absurd z (by decide), hx⟩⟩ | exact Or.inr (⟨rfl, fun _ => ⟨0, fun z => absurd z (by decide), hx⟩⟩)) (fun r s9 hp => ⟨r, fun _ => rfl, hp⟩)) rfl rfl ⟨Nat.le_of_ble_eq_true rfl, Nat.le_of_ble_eq_true rfl⟩ (Nat.le_of_ble_eq_true rfl) ⟨Nat.add_le_add_left (Nat.le_of_ble_eq_true rfl) _, Nat.add_le_add_left (Nat.le_of_ble_eq_true rfl) _, hc, hs⟩ (k_Wx fun kc x s9 hp => ?_)
  obtain ⟨r, hx, hw⟩ := hp
  have C1 := zC_x C x
  have X1 : zSx (zZx Z x) s L xs := X
  refine z_istore C1 dL_law_1079 (lc' := [some (.ref 208), some (.ref 10), some (.ref 100), some (.ref 9), some (.int i), some (.int kc), none, none]) (by decide) rfl ?_
  refine z_aload_n C1 dL_law_1081 (i := 2) rfl rfl ?_
  refine z_aload_n C1 dL_law_1082 (i := 0) rfl rfl ?_
  refine z_iload C1 dL_law_1083 (i := 4) rfl ?_
  refine z_iconst C1 dL_law_1085 (v := 1) (by decide) ?_
  refine z_iadd C1 dL_law_1086 ?_
  refine t_sld C1 X1 dL_law_1087 x1.1 ?_
  rw [x1.2]
  refine t_callV C1 (rest := []) (c2 := cells + 30) (s2 := slots + 8828) (kd := 100) (i := 0) [.int a1] dL_law_1088 lk_L_204 li_X12_surveyor le_X12_surveyor (c_X12_surveyor hfl hw) rfl rfl (by decide) rfl ⟨_, rfl⟩ rfl ⟨Nat.le_of_ble_eq_true rfl, Nat.le_of_ble_eq_true rfl⟩ (Nat.le_of_ble_eq_true rfl) ⟨Nat.le_refl _, Nat.le_refl _, hc, hs⟩ (k_Wi fun b s2 hb => ?_)
  refine z_istore C1 dL_law_1091 (lc' := [some (.ref 208), some (.ref 10), some (.ref 100), some (.ref 9), some (.int i), some (.int kc), some (.int b), none]) (by decide) rfl ?_
  refine z_aload_n C1 dL_law_1093 (i := 2) rfl rfl ?_
  refine t_callV C1 (rest := []) (c2 := cells + 30) (s2 := slots + 8828) (kd := 100) (i := 0) [] dL_law_1094 lk_L_156 li_X12_thrown le_X12_thrown (c_X12_thrown hfl (P := fun r => r = kc) hb.1) rfl rfl (by decide) rfl ⟨_, rfl⟩ rfl ⟨Nat.le_of_ble_eq_true rfl, Nat.le_of_ble_eq_true rfl⟩ (Nat.le_of_ble_eq_true rfl) ⟨Nat.le_refl _, Nat.le_refl _, hc, hs⟩ (k_Ri fun t ht => ?_)
  refine z_iload C1 dL_law_1097 (i := 5) rfl ?_
  refine z_icmp_eq C1 dL_law_1099 (tgt := 1104) (by decide) (fun _ => ?_) (fun z => absurd ht z)
  refine z_iload C1 dL_law_1104 (i := 5) rfl ?_
  refine z_if_ne C1 dL_law_1106 (tgt := 1121) (by decide) (fun _ => ?_) (fun k0 => ?_)
  · refine z_goto C1 dL_law_1121 (tgt := 3262) (by decide) ?_
    exact t_drop [true, true, true, true, true, false, false, false] rfl (zG_y x (hK x s2 hb.2.2))
  · refine z_aload_n C1 dL_law_1109 (i := 3) rfl rfl ?_
    refine z_iconst C1 dL_law_1110 (v := 0) (by decide) ?_
    refine t_jld C1 dL_law_1111 rfl ?_
    refine z_iload C1 dL_law_1112 (i := 6) rfl ?_
    refine z_i2l C1 dL_law_1114 ?_
    refine z_lcmp C1 dL_law_1115 ?_
    refine z_if_eq C1 dL_law_1116 (tgt := 1121) (by decide) (fun _ => ?_) (fun z => absurd (by rw [hb.2.1 k0]; exact zcmp0 (hx k0)) z)
    refine z_goto C1 dL_law_1121 (tgt := 3262) (by decide) ?_
    exact t_drop [true, true, true, true, true, false, false, false] rfl (zG_y x (hK x s2 hb.2.2))
set_option maxHeartbeats 4000000 in
set_option maxRecDepth 100000 in
theorem law_14 {Z : zZ} {p : Program} {l : Launch} {e : Env} {s : State} {m : MethodId} {args : Array Value} {below : List Frame} {meth : Method} {c : Code} {ad0 : Nat → Nat} {h0 : zH} {Q : State → Prop} {L : Nat} {xs : Nat → Int32} {st : zTs} {i : Int32} {cells slots : Nat} {a1 : Int32} {a2 : Int32} {a3 : Int32} {a4 : Int32} (hfl : l.stackTraces = false) (C : zC Z p s m args meth c cL_law 8 RL) (X : zSx Z s L xs) (h : qR st) (x1 : vp_in (i + 1) L ∧ xs (i + 1).toNatClampNeg = a1) (x2 : vp_in (i + 2) L ∧ xs (i + 2).toNatClampNeg = a2) (x3 : vp_in (i + 3) L ∧ xs (i + 3).toNatClampNeg = a3) (x4 : vp_in (i + 4) L ∧ xs (i + 4).toNatClampNeg = a4) (hc : cells + 30 ≤ room_1.cells) (hs : slots + 8828 ≤ room_1.slots) (hK : ∀ x st1, qR st1 → zG Z ad0 h0 p l e room_1 s m args below meth c Q (cells + 30) (slots + 8828) (zh (zZx Z x) zm1 st1) 8 3262 [some (.ref 208), some (.ref 10), some (.ref 100), some (.ref 9), some (.int i), none, none, none] []) : zG Z ad0 h0 p l e room_1 s m args below meth c Q cells slots (zh Z zm1 st) 8 1124 [some (.ref 208), some (.ref 10), some (.ref 100), some (.ref 9), some (.int i), none, none, none] [] := by
  refine z_aload_n C dL_law_1124 (i := 1) rfl rfl ?_
  refine z_aload_n C dL_law_1125 (i := 0) rfl rfl ?_
  refine z_iload C dL_law_1126 (i := 4) rfl ?_
  refine z_iconst C dL_law_1128 (v := 1) (by decide) ?_
  refine z_iadd C dL_law_1129 ?_
  refine t_sld C X dL_law_1130 x1.1 ?_
  rw [x1.2]
  refine z_aload_n C dL_law_1131 (i := 0) rfl rfl ?_
  refine z_iload C dL_law_1132 (i := 4) rfl ?_
  refine z_iconst C dL_law_1134 (v := 2) (by decide) ?_
  refine z_iadd C dL_law_1135 ?_
  refine t_sld C X dL_law_1136 x2.1 ?_
  rw [x2.2]
  refine z_aload_n C dL_law_1137 (i := 0) rfl rfl ?_
  refine z_iload C dL_law_1138 (i := 4) rfl ?_
  refine z_iconst C dL_law_1140 (v := 3) (by decide) ?_
  refine z_iadd C dL_law_1141 ?_
  refine t_sld C X dL_law_1142 x3.1 ?_
  rw [x3.2]
  refine z_aload_n C dL_law_1143 (i := 0) rfl rfl ?_
  refine z_iload C dL_law_1144 (i := 4) rfl ?_
  refine z_iconst C dL_law_1146 (v := 4) (by decide) ?_
  refine z_iadd C dL_law_1147 ?_
  refine t_sld C X dL_law_1148 x4.1 ?_
  rw [x4.2]
  refine z_aload_n C dL_law_1149 (i := 3) rfl rfl ?_
  refine t_callSO C (rest := []) (c2 := cells + 30) (s2 := slots + 8828) [.ref 10, .int a1, .int a2, .int a3, .int a4, .ref 9] dL_law_1150 lw_L_appoint (c_L_appoint hfl (P1 := fun kc x s9 => ∃ r : Int32, (kc = 0 → x = zjn r.toInt64) ∧ w_X12_appoint s9 a1 a2 a3 a4 (zOK kc r)) (b_appoint h) (fun k9 s9 hx => by rcases hx with ⟨rfl, hx⟩ | ⟨rfl, hx⟩ <;> first | exact Or.inl ⟨rfl, fun _ => ⟨0, fun z => absurd z (by decide), hx⟩⟩ | exact Or.inr (⟨rfl, fun _ => ⟨0, fun z => absurd z (by decide), hx⟩⟩)) (fun r s9 hp => ⟨r, fun _ => rfl, hp⟩)) rfl rfl ⟨Nat.le_of_ble_eq_true rfl, Nat.le_of_ble_eq_true rfl⟩ (Nat.le_of_ble_eq_true rfl) ⟨Nat.add_le_add_left (Nat.le_of_ble_eq_true rfl) _, Nat.add_le_add_left (Nat.le_of_ble_eq_true rfl) _, hc, hs⟩ (k_Wx fun kc x s9 hp => ?_)
  obtain ⟨r, hx, hw⟩ := hp
  have C1 := zC_x C x
  have X1 : zSx (zZx Z x) s L xs := X
  refine z_istore C1 dL_law_1153 (lc' := [some (.ref 208), some (.ref 10), some (.ref 100), some (.ref 9), some (.int i), some (.int kc), none, none]) (by decide) rfl ?_
  refine z_aload_n C1 dL_law_1155 (i := 2) rfl rfl ?_
  refine z_aload_n C1 dL_law_1156 (i := 0) rfl rfl ?_
  refine z_iload C1 dL_law_1157 (i := 4) rfl ?_
  refine z_iconst C1 dL_law_1159 (v := 1) (by decide) ?_
  refine z_iadd C1 dL_law_1160 ?_
  refine t_sld C1 X1 dL_law_1161 x1.1 ?_
  rw [x1.2]
  refine z_aload_n C1 dL_law_1162 (i := 0) rfl rfl ?_
  refine z_iload C1 dL_law_1163 (i := 4) rfl ?_
  refine z_iconst C1 dL_law_1165 (v := 2) (by decide) ?_
  refine z_iadd C1 dL_law_1166 ?_
  refine t_sld C1 X1 dL_law_1167 x2.1 ?_
  rw [x2.2]
  refine z_aload_n C1 dL_law_1168 (i := 0) rfl rfl ?_
  refine z_iload C1 dL_law_1169 (i := 4) rfl ?_
  refine z_iconst C1 dL_law_1171 (v := 3) (by decide) ?_
  refine z_iadd C1 dL_law_1172 ?_
  refine t_sld C1 X1 dL_law_1173 x3.1 ?_
  rw [x3.2]
  refine z_aload_n C1 dL_law_1174 (i := 0) rfl rfl ?_
  refine z_iload C1 dL_law_1175 (i := 4) rfl ?_
  refine z_iconst C1 dL_law_1177 (v := 4) (by decide) ?_
  refine z_iadd C1 dL_law_1178 ?_
  refine t_sld C1 X1 dL_law_1179 x4.1 ?_
  rw [x4.2]
  refine t_callV C1 (rest := []) (c2 := cells + 30) (s2 := slots + 8828) (kd := 100) (i := 0) [.int a1, .int a2, .int a3, .int a4] dL_law_1180 lk_L_208 li_X12_appoint le_X12_appoint (c_X12_appoint hfl hw) rfl rfl (by decide) rfl ⟨_, rfl⟩ rfl ⟨Nat.le_of_ble_eq_true rfl, Nat.le_of_ble_eq_true rfl⟩ (Nat.le_of_ble_eq_true rfl) ⟨Nat.le_refl _, Nat.le_refl _, hc, hs⟩ (k_Wi fun b s2 hb => ?_)
  refine z_istore C1 dL_law_1183 (lc' := [some (.ref 208), some (.ref 10), some (.ref 100), some (.ref 9), some (.int i), some (.int kc), some (.int b), none]) (by decide) rfl ?_
  refine z_aload_n C1 dL_law_1185 (i := 2) rfl rfl ?_
  refine t_callV C1 (rest := []) (c2 := cells + 30) (s2 := slots + 8828) (kd := 100) (i := 0) [] dL_law_1186 lk_L_156 li_X12_thrown le_X12_thrown (c_X12_thrown hfl (P := fun r => r = kc) hb.1) rfl rfl (by decide) rfl ⟨_, rfl⟩ rfl ⟨Nat.le_of_ble_eq_true rfl, Nat.le_of_ble_eq_true rfl⟩ (Nat.le_of_ble_eq_true rfl) ⟨Nat.le_refl _, Nat.le_refl _, hc, hs⟩ (k_Ri fun t ht => ?_)
  refine z_iload C1 dL_law_1189 (i := 5) rfl ?_
  refine z_icmp_eq C1 dL_law_1191 (tgt := 1196) (by decide) (fun _ => ?_) (fun z => absurd ht z)
  refine z_iload C1 dL_law_1196 (i := 5) rfl ?_
  refine z_if_ne C1 dL_law_1198 (tgt := 1213) (by decide) (fun _ => ?_) (fun k0 => ?_)
  · refine z_goto C1 dL_law_1213 (tgt := 3262) (by decide) ?_
    exact t_drop [true, true, true, true, true, false, false, false] rfl (zG_y x (hK x s2 hb.2.2))
  · refine z_aload_n C1 dL_law_1201 (i := 3) rfl rfl ?_
    refine z_iconst C1 dL_law_1202 (v := 0) (by decide) ?_
    refine t_jld C1 dL_law_1203 rfl ?_
    refine z_iload C1 dL_law_1204 (i := 6) rfl ?_
    refine z_i2l C1 dL_law_1206 ?_
    refine z_lcmp C1 dL_law_1207 ?_
    refine z_if_eq C1 dL_law_1208 (tgt := 1213) (by decide) (fun _ => ?_) (fun z => absurd (by rw [hb.2.1 k0]; exact zcmp0 (hx k0)) z)
    refine z_goto C1 dL_law_1213 (tgt := 3262) (by decide) ?_
    exact t_drop [true, true, true, true, true, false, false, false] rfl (zG_y x (hK x s2 hb.2.2))
set_option maxHeartbeats 4000000 in
set_option maxRecDepth 100000 in
theorem law_15 {Z : zZ} {p : Program} {l : Launch} {e : Env} {s : State} {m : MethodId} {args : Array Value} {below : List Frame} {meth : Method} {c : Code} {ad0 : Nat → Nat} {h0 : zH} {Q : State → Prop} {L : Nat} {xs : Nat → Int32} {st : zTs} {i : Int32} {cells slots : Nat} {a1 : Int32} {a2 : Int32} (hfl : l.stackTraces = false) (C : zC Z p s m args meth c cL_law 8 RL) (X : zSx Z s L xs) (h : qR st) (x1 : vp_in (i + 1) L ∧ xs (i + 1).toNatClampNeg = a1) (x2 : vp_in (i + 2) L ∧ xs (i + 2).toNatClampNeg = a2) (hc : cells + 30 ≤ room_1.cells) (hs : slots + 8828 ≤ room_1.slots) (hK : ∀ x st1, qR st1 → zG Z ad0 h0 p l e room_1 s m args below meth c Q (cells + 30) (slots + 8828) (zh (zZx Z x) zm1 st1) 8 3262 [some (.ref 208), some (.ref 10), some (.ref 100), some (.ref 9), some (.int i), none, none, none] []) : zG Z ad0 h0 p l e room_1 s m args below meth c Q cells slots (zh Z zm1 st) 8 1216 [some (.ref 208), some (.ref 10), some (.ref 100), some (.ref 9), some (.int i), none, none, none] [] := by
  refine z_aload_n C dL_law_1216 (i := 1) rfl rfl ?_
  refine z_aload_n C dL_law_1217 (i := 0) rfl rfl ?_
  refine z_iload C dL_law_1218 (i := 4) rfl ?_
  refine z_iconst C dL_law_1220 (v := 1) (by decide) ?_
  refine z_iadd C dL_law_1221 ?_
  refine t_sld C X dL_law_1222 x1.1 ?_
  rw [x1.2]
  refine z_aload_n C dL_law_1223 (i := 0) rfl rfl ?_
  refine z_iload C dL_law_1224 (i := 4) rfl ?_
  refine z_iconst C dL_law_1226 (v := 2) (by decide) ?_
  refine z_iadd C dL_law_1227 ?_
  refine t_sld C X dL_law_1228 x2.1 ?_
  rw [x2.2]
  refine z_aload_n C dL_law_1229 (i := 3) rfl rfl ?_
  refine t_callSO C (rest := []) (c2 := cells + 30) (s2 := slots + 8828) [.ref 10, .int a1, .int a2, .ref 9] dL_law_1230 lw_L_surveys (c_L_surveys hfl (P1 := fun kc x s9 => ∃ r : Int32, (kc = 0 → x = zjn r.toInt64) ∧ w_X12_surveys s9 a1 a2 (zOK kc r)) (b_surveys h) (fun k9 s9 hx => by rcases hx with ⟨rfl, hx⟩ | ⟨rfl, hx⟩ <;> first | exact Or.inl ⟨rfl, fun _ => ⟨0, fun z => absurd z (by decide), hx⟩⟩ | exact Or.inr (⟨rfl, fun _ => ⟨0, fun z => absurd z (by decide), hx⟩⟩)) (fun r s9 hp => ⟨r, fun _ => rfl, hp⟩)) rfl rfl ⟨Nat.le_of_ble_eq_true rfl, Nat.le_of_ble_eq_true rfl⟩ (Nat.le_of_ble_eq_true rfl) ⟨Nat.add_le_add_left (Nat.le_of_ble_eq_true rfl) _, Nat.add_le_add_left (Nat.le_of_ble_eq_true rfl) _, hc, hs⟩ (k_Wx fun kc x s9 hp => ?_)
  obtain ⟨r, hx, hw⟩ := hp
  have C1 := zC_x C x
  have X1 : zSx (zZx Z x) s L xs := X
  refine z_istore C1 dL_law_1233 (lc' := [some (.ref 208), some (.ref 10), some (.ref 100), some (.ref 9), some (.int i), some (.int kc), none, none]) (by decide) rfl ?_
  refine z_aload_n C1 dL_law_1235 (i := 2) rfl rfl ?_
  refine z_aload_n C1 dL_law_1236 (i := 0) rfl rfl ?_
  refine z_iload C1 dL_law_1237 (i := 4) rfl ?_
  refine z_iconst C1 dL_law_1239 (v := 1) (by decide) ?_
  refine z_iadd C1 dL_law_1240 ?_
  refine t_sld C1 X1 dL_law_1241 x1.1 ?_
  rw [x1.2]
  refine z_aload_n C1 dL_law_1242 (i := 0) rfl rfl ?_
  refine z_iload C1 dL_law_1243 (i := 4) rfl ?_
  refine z_iconst C1 dL_law_1245 (v := 2) (by decide) ?_
  refine z_iadd C1 dL_law_1246 ?_
  refine t_sld C1 X1 dL_law_1247 x2.1 ?_
  rw [x2.2]
  refine t_callV C1 (rest := []) (c2 := cells + 30) (s2 := slots + 8828) (kd := 100) (i := 0) [.int a1, .int a2] dL_law_1248 lk_L_211 li_X12_surveys le_X12_surveys (c_X12_surveys hfl hw) rfl rfl (by decide) rfl ⟨_, rfl⟩ rfl ⟨Nat.le_of_ble_eq_true rfl, Nat.le_of_ble_eq_true rfl⟩ (Nat.le_of_ble_eq_true rfl) ⟨Nat.le_refl _, Nat.le_refl _, hc, hs⟩ (k_Wi fun b s2 hb => ?_)
  refine z_istore C1 dL_law_1251 (lc' := [some (.ref 208), some (.ref 10), some (.ref 100), some (.ref 9), some (.int i), some (.int kc), some (.int b), none]) (by decide) rfl ?_
  refine z_aload_n C1 dL_law_1253 (i := 2) rfl rfl ?_
  refine t_callV C1 (rest := []) (c2 := cells + 30) (s2 := slots + 8828) (kd := 100) (i := 0) [] dL_law_1254 lk_L_156 li_X12_thrown le_X12_thrown (c_X12_thrown hfl (P := fun r => r = kc) hb.1) rfl rfl (by decide) rfl ⟨_, rfl⟩ rfl ⟨Nat.le_of_ble_eq_true rfl, Nat.le_of_ble_eq_true rfl⟩ (Nat.le_of_ble_eq_true rfl) ⟨Nat.le_refl _, Nat.le_refl _, hc, hs⟩ (k_Ri fun t ht => ?_)
  refine z_iload C1 dL_law_1257 (i := 5) rfl ?_
  refine z_icmp_eq C1 dL_law_1259 (tgt := 1264) (by decide) (fun _ => ?_) (fun z => absurd ht z)
  refine z_iload C1 dL_law_1264 (i := 5) rfl ?_
  refine z_if_ne C1 dL_law_1266 (tgt := 1281) (by decide) (fun _ => ?_) (fun k0 => ?_)
  · refine z_goto C1 dL_law_1281 (tgt := 3262) (by decide) ?_
    exact t_drop [true, true, true, true, true, false, false, false] rfl (zG_y x (hK x s2 hb.2.2))
  · refine z_aload_n C1 dL_law_1269 (i := 3) rfl rfl ?_
    refine z_iconst C1 dL_law_1270 (v := 0) (by decide) ?_
    refine t_jld C1 dL_law_1271 rfl ?_
    refine z_iload C1 dL_law_1272 (i := 6) rfl ?_
    refine z_i2l C1 dL_law_1274 ?_
    refine z_lcmp C1 dL_law_1275 ?_
    refine z_if_eq C1 dL_law_1276 (tgt := 1281) (by decide) (fun _ => ?_) (fun z => absurd (by rw [hb.2.1 k0]; exact zcmp0 (hx k0)) z)
    refine z_goto C1 dL_law_1281 (tgt := 3262) (by decide) ?_
    exact t_drop [true, true, true, true, true, false, false, false] rfl (zG_y x (hK x s2 hb.2.2))
set_option maxHeartbeats 4000000 in
set_option maxRecDepth 100000 in
theorem law_16 {Z : zZ} {p : Program} {l : Launch} {e : Env} {s : State} {m : MethodId} {args : Array Value} {below : List Frame} {meth : Method} {c : Code} {ad0 : Nat → Nat} {h0 : zH} {Q : State → Prop} {L : Nat} {xs : Nat → Int32} {st : zTs} {i : Int32} {cells slots : Nat} {a1 : Int32} {a2 : Int32} {a3 : Int32} {a4 : Int32} {a5 : Int32} (hfl : l.stackTraces = false) (C : zC Z p s m args meth c cL_law 8 RL) (X : zSx Z s L xs) (h : qR st) (x1 : vp_in (i + 1) L ∧ xs (i + 1).toNatClampNeg = a1) (x2 : vp_in (i + 2) L ∧ xs (i + 2).toNatClampNeg = a2) (x3 : vp_in (i + 3) L ∧ xs (i + 3).toNatClampNeg = a3) (x4 : vp_in (i + 4) L ∧ xs (i + 4).toNatClampNeg = a4) (x5 : vp_in (i + 5) L ∧ xs (i + 5).toNatClampNeg = a5) (hc : cells + 30 ≤ room_1.cells) (hs : slots + 8828 ≤ room_1.slots) (hK : ∀ x st1, qR st1 → zG Z ad0 h0 p l e room_1 s m args below meth c Q (cells + 30) (slots + 8828) (zh (zZx Z x) zm1 st1) 8 3262 [some (.ref 208), some (.ref 10), some (.ref 100), some (.ref 9), some (.int i), none, none, none] []) : zG Z ad0 h0 p l e room_1 s m args below meth c Q cells slots (zh Z zm1 st) 8 1284 [some (.ref 208), some (.ref 10), some (.ref 100), some (.ref 9), some (.int i), none, none, none] [] := by
  refine z_aload_n C dL_law_1284 (i := 1) rfl rfl ?_
  refine z_aload_n C dL_law_1285 (i := 0) rfl rfl ?_
  refine z_iload C dL_law_1286 (i := 4) rfl ?_
  refine z_iconst C dL_law_1288 (v := 1) (by decide) ?_
  refine z_iadd C dL_law_1289 ?_
  refine t_sld C X dL_law_1290 x1.1 ?_
  rw [x1.2]
  refine z_aload_n C dL_law_1291 (i := 0) rfl rfl ?_
  refine z_iload C dL_law_1292 (i := 4) rfl ?_
  refine z_iconst C dL_law_1294 (v := 2) (by decide) ?_
  refine z_iadd C dL_law_1295 ?_
  refine t_sld C X dL_law_1296 x2.1 ?_
  rw [x2.2]
  refine z_aload_n C dL_law_1297 (i := 0) rfl rfl ?_
  refine z_iload C dL_law_1298 (i := 4) rfl ?_
  refine z_iconst C dL_law_1300 (v := 3) (by decide) ?_
  refine z_iadd C dL_law_1301 ?_
  refine t_sld C X dL_law_1302 x3.1 ?_
  rw [x3.2]
  refine z_aload_n C dL_law_1303 (i := 0) rfl rfl ?_
  refine z_iload C dL_law_1304 (i := 4) rfl ?_
  refine z_iconst C dL_law_1306 (v := 4) (by decide) ?_
  refine z_iadd C dL_law_1307 ?_
  refine t_sld C X dL_law_1308 x4.1 ?_
  rw [x4.2]
  refine z_aload_n C dL_law_1309 (i := 0) rfl rfl ?_
  refine z_iload C dL_law_1310 (i := 4) rfl ?_
  refine z_iconst C dL_law_1312 (v := 5) (by decide) ?_
  refine z_iadd C dL_law_1313 ?_
  refine t_sld C X dL_law_1314 x5.1 ?_
  rw [x5.2]
  refine z_aload_n C dL_law_1315 (i := 3) rfl rfl ?_
  refine t_callSO C (rest := []) (c2 := cells + 30) (s2 := slots + 8828) [.ref 10, .int a1, .int a2, .int a3, .int a4, .int a5, .ref 9] dL_law_1316 lw_L_propose (c_L_propose hfl (P1 := fun kc x s9 => ∃ r : Int32, (kc = 0 → x = zjn r.toInt64) ∧ w_X12_propose s9 a1 a2 a3 a4 a5 (zOK kc r)) (b_propose h) (fun k9 s9 hx => by rcases hx with ⟨rfl, hx⟩ | ⟨rfl, hx⟩ <;> first | exact Or.inl ⟨rfl, fun _ => ⟨0, fun z => absurd z (by decide), hx⟩⟩ | exact Or.inr (⟨rfl, fun _ => ⟨0, fun z => absurd z (by decide), hx⟩⟩)) (fun r s9 hp => ⟨r, fun _ => rfl, hp⟩)) rfl rfl ⟨Nat.le_of_ble_eq_true rfl, Nat.le_of_ble_eq_true rfl⟩ (Nat.le_of_ble_eq_true rfl) ⟨Nat.add_le_add_left (Nat.le_of_ble_eq_true rfl) _, Nat.add_le_add_left (Nat.le_of_ble_eq_true rfl) _, hc, hs⟩ (k_Wx fun kc x s9 hp => ?_)
  obtain ⟨r, hx, hw⟩ := hp
  have C1 := zC_x C x
  have X1 : zSx (zZx Z x) s L xs := X
  refine z_istore C1 dL_law_1319 (lc' := [some (.ref 208), some (.ref 10), some (.ref 100), some (.ref 9), some (.int i), some (.int kc), none, none]) (by decide) rfl ?_
  refine z_aload_n C1 dL_law_1321 (i := 2) rfl rfl ?_
  refine z_aload_n C1 dL_law_1322 (i := 0) rfl rfl ?_
  refine z_iload C1 dL_law_1323 (i := 4) rfl ?_
  refine z_iconst C1 dL_law_1325 (v := 1) (by decide) ?_
  refine z_iadd C1 dL_law_1326 ?_
  refine t_sld C1 X1 dL_law_1327 x1.1 ?_
  rw [x1.2]
  refine z_aload_n C1 dL_law_1328 (i := 0) rfl rfl ?_
  refine z_iload C1 dL_law_1329 (i := 4) rfl ?_
  refine z_iconst C1 dL_law_1331 (v := 2) (by decide) ?_
  refine z_iadd C1 dL_law_1332 ?_
  refine t_sld C1 X1 dL_law_1333 x2.1 ?_
  rw [x2.2]
  refine z_aload_n C1 dL_law_1334 (i := 0) rfl rfl ?_
  refine z_iload C1 dL_law_1335 (i := 4) rfl ?_
  refine z_iconst C1 dL_law_1337 (v := 3) (by decide) ?_
  refine z_iadd C1 dL_law_1338 ?_
  refine t_sld C1 X1 dL_law_1339 x3.1 ?_
  rw [x3.2]
  refine z_aload_n C1 dL_law_1340 (i := 0) rfl rfl ?_
  refine z_iload C1 dL_law_1341 (i := 4) rfl ?_
  refine z_iconst C1 dL_law_1343 (v := 4) (by decide) ?_
  refine z_iadd C1 dL_law_1344 ?_
  refine t_sld C1 X1 dL_law_1345 x4.1 ?_
  rw [x4.2]
  refine z_aload_n C1 dL_law_1346 (i := 0) rfl rfl ?_
  refine z_iload C1 dL_law_1347 (i := 4) rfl ?_
  refine z_iconst C1 dL_law_1349 (v := 5) (by decide) ?_
  refine z_iadd C1 dL_law_1350 ?_
  refine t_sld C1 X1 dL_law_1351 x5.1 ?_
  rw [x5.2]
  refine t_callV C1 (rest := []) (c2 := cells + 30) (s2 := slots + 8828) (kd := 100) (i := 0) [.int a1, .int a2, .int a3, .int a4, .int a5] dL_law_1352 lk_L_215 li_X12_propose le_X12_propose (c_X12_propose hfl hw) rfl rfl (by decide) rfl ⟨_, rfl⟩ rfl ⟨Nat.le_of_ble_eq_true rfl, Nat.le_of_ble_eq_true rfl⟩ (Nat.le_of_ble_eq_true rfl) ⟨Nat.le_refl _, Nat.le_refl _, hc, hs⟩ (k_Wi fun b s2 hb => ?_)
  refine z_istore C1 dL_law_1355 (lc' := [some (.ref 208), some (.ref 10), some (.ref 100), some (.ref 9), some (.int i), some (.int kc), some (.int b), none]) (by decide) rfl ?_
  refine z_aload_n C1 dL_law_1357 (i := 2) rfl rfl ?_
  refine t_callV C1 (rest := []) (c2 := cells + 30) (s2 := slots + 8828) (kd := 100) (i := 0) [] dL_law_1358 lk_L_156 li_X12_thrown le_X12_thrown (c_X12_thrown hfl (P := fun r => r = kc) hb.1) rfl rfl (by decide) rfl ⟨_, rfl⟩ rfl ⟨Nat.le_of_ble_eq_true rfl, Nat.le_of_ble_eq_true rfl⟩ (Nat.le_of_ble_eq_true rfl) ⟨Nat.le_refl _, Nat.le_refl _, hc, hs⟩ (k_Ri fun t ht => ?_)
  refine z_iload C1 dL_law_1361 (i := 5) rfl ?_
  refine z_icmp_eq C1 dL_law_1363 (tgt := 1368) (by decide) (fun _ => ?_) (fun z => absurd ht z)
  refine z_iload C1 dL_law_1368 (i := 5) rfl ?_
  refine z_if_ne C1 dL_law_1370 (tgt := 1385) (by decide) (fun _ => ?_) (fun k0 => ?_)
  · refine z_goto C1 dL_law_1385 (tgt := 3262) (by decide) ?_
    exact t_drop [true, true, true, true, true, false, false, false] rfl (zG_y x (hK x s2 hb.2.2))
  · refine z_aload_n C1 dL_law_1373 (i := 3) rfl rfl ?_
    refine z_iconst C1 dL_law_1374 (v := 0) (by decide) ?_
    refine t_jld C1 dL_law_1375 rfl ?_
    refine z_iload C1 dL_law_1376 (i := 6) rfl ?_
    refine z_i2l C1 dL_law_1378 ?_
    refine z_lcmp C1 dL_law_1379 ?_
    refine z_if_eq C1 dL_law_1380 (tgt := 1385) (by decide) (fun _ => ?_) (fun z => absurd (by rw [hb.2.1 k0]; exact zcmp0 (hx k0)) z)
    refine z_goto C1 dL_law_1385 (tgt := 3262) (by decide) ?_
    exact t_drop [true, true, true, true, true, false, false, false] rfl (zG_y x (hK x s2 hb.2.2))
set_option maxHeartbeats 4000000 in
set_option maxRecDepth 100000 in
theorem law_17 {Z : zZ} {p : Program} {l : Launch} {e : Env} {s : State} {m : MethodId} {args : Array Value} {below : List Frame} {meth : Method} {c : Code} {ad0 : Nat → Nat} {h0 : zH} {Q : State → Prop} {L : Nat} {xs : Nat → Int32} {st : zTs} {i : Int32} {cells slots : Nat} {a1 : Int32} (hfl : l.stackTraces = false) (C : zC Z p s m args meth c cL_law 8 RL) (X : zSx Z s L xs) (h : qR st) (x1 : vp_in (i + 1) L ∧ xs (i + 1).toNatClampNeg = a1) (hc : cells + 30 ≤ room_1.cells) (hs : slots + 8828 ≤ room_1.slots) (hK : ∀ x st1, qR st1 → zG Z ad0 h0 p l e room_1 s m args below meth c Q (cells + 30) (slots + 8828) (zh (zZx Z x) zm1 st1) 8 3262 [some (.ref 208), some (.ref 10), some (.ref 100), some (.ref 9), some (.int i), none, none, none] []) : zG Z ad0 h0 p l e room_1 s m args below meth c Q cells slots (zh Z zm1 st) 8 1388 [some (.ref 208), some (.ref 10), some (.ref 100), some (.ref 9), some (.int i), none, none, none] [] := by
  refine z_aload_n C dL_law_1388 (i := 1) rfl rfl ?_
  refine z_aload_n C dL_law_1389 (i := 0) rfl rfl ?_
  refine z_iload C dL_law_1390 (i := 4) rfl ?_
  refine z_iconst C dL_law_1392 (v := 1) (by decide) ?_
  refine z_iadd C dL_law_1393 ?_
  refine t_sld C X dL_law_1394 x1.1 ?_
  rw [x1.2]
  refine z_aload_n C dL_law_1395 (i := 3) rfl rfl ?_
  refine t_callSO C (rest := []) (c2 := cells + 30) (s2 := slots + 8828) [.ref 10, .int a1, .ref 9] dL_law_1396 lw_L_appeal (c_L_appeal hfl (P1 := fun kc x s9 => ∃ r : Int32, (kc = 0 → x = zjn r.toInt64) ∧ w_X12_appeal s9 a1 (zOK kc r)) (b_appeal h) (fun k9 s9 hx => by obtain ⟨rfl, hx⟩ := hx; exact ⟨rfl, fun _ => ⟨0, fun z => absurd z (by decide), hx⟩⟩) (fun r s9 hp => ⟨r, fun _ => rfl, hp⟩)) rfl rfl ⟨Nat.le_of_ble_eq_true rfl, Nat.le_of_ble_eq_true rfl⟩ (Nat.le_of_ble_eq_true rfl) ⟨Nat.add_le_add_left (Nat.le_of_ble_eq_true rfl) _, Nat.add_le_add_left (Nat.le_of_ble_eq_true rfl) _, hc, hs⟩ (k_Wx fun kc x s9 hp => ?_)
  obtain ⟨r, hx, hw⟩ := hp
  have C1 := zC_x C x
  have X1 : zSx (zZx Z x) s L xs := X
  refine z_istore C1 dL_law_1399 (lc' := [some (.ref 208), some (.ref 10), some (.ref 100), some (.ref 9), some (.int i), some (.int kc), none, none]) (by decide) rfl ?_
  refine z_aload_n C1 dL_law_1401 (i := 2) rfl rfl ?_
  refine z_aload_n C1 dL_law_1402 (i := 0) rfl rfl ?_
  refine z_iload C1 dL_law_1403 (i := 4) rfl ?_
  refine z_iconst C1 dL_law_1405 (v := 1) (by decide) ?_
  refine z_iadd C1 dL_law_1406 ?_
  refine t_sld C1 X1 dL_law_1407 x1.1 ?_
  rw [x1.2]
  refine t_callV C1 (rest := []) (c2 := cells + 30) (s2 := slots + 8828) (kd := 100) (i := 0) [.int a1] dL_law_1408 lk_L_218 li_X12_appeal le_X12_appeal (c_X12_appeal hfl hw) rfl rfl (by decide) rfl ⟨_, rfl⟩ rfl ⟨Nat.le_of_ble_eq_true rfl, Nat.le_of_ble_eq_true rfl⟩ (Nat.le_of_ble_eq_true rfl) ⟨Nat.le_refl _, Nat.le_refl _, hc, hs⟩ (k_Wi fun b s2 hb => ?_)
  refine z_istore C1 dL_law_1411 (lc' := [some (.ref 208), some (.ref 10), some (.ref 100), some (.ref 9), some (.int i), some (.int kc), some (.int b), none]) (by decide) rfl ?_
  refine z_aload_n C1 dL_law_1413 (i := 2) rfl rfl ?_
  refine t_callV C1 (rest := []) (c2 := cells + 30) (s2 := slots + 8828) (kd := 100) (i := 0) [] dL_law_1414 lk_L_156 li_X12_thrown le_X12_thrown (c_X12_thrown hfl (P := fun r => r = kc) hb.1) rfl rfl (by decide) rfl ⟨_, rfl⟩ rfl ⟨Nat.le_of_ble_eq_true rfl, Nat.le_of_ble_eq_true rfl⟩ (Nat.le_of_ble_eq_true rfl) ⟨Nat.le_refl _, Nat.le_refl _, hc, hs⟩ (k_Ri fun t ht => ?_)
  refine z_iload C1 dL_law_1417 (i := 5) rfl ?_
  refine z_icmp_eq C1 dL_law_1419 (tgt := 1424) (by decide) (fun _ => ?_) (fun z => absurd ht z)
  refine z_iload C1 dL_law_1424 (i := 5) rfl ?_
  refine z_if_ne C1 dL_law_1426 (tgt := 1441) (by decide) (fun _ => ?_) (fun k0 => ?_)
  · refine z_goto C1 dL_law_1441 (tgt := 3262) (by decide) ?_
    exact t_drop [true, true, true, true, true, false, false, false] rfl (zG_y x (hK x s2 hb.2.2))
  · refine z_aload_n C1 dL_law_1429 (i := 3) rfl rfl ?_
    refine z_iconst C1 dL_law_1430 (v := 0) (by decide) ?_
    refine t_jld C1 dL_law_1431 rfl ?_
    refine z_iload C1 dL_law_1432 (i := 6) rfl ?_
    refine z_i2l C1 dL_law_1434 ?_
    refine z_lcmp C1 dL_law_1435 ?_
    refine z_if_eq C1 dL_law_1436 (tgt := 1441) (by decide) (fun _ => ?_) (fun z => absurd (by rw [hb.2.1 k0]; exact zcmp0 (hx k0)) z)
    refine z_goto C1 dL_law_1441 (tgt := 3262) (by decide) ?_
    exact t_drop [true, true, true, true, true, false, false, false] rfl (zG_y x (hK x s2 hb.2.2))
set_option maxHeartbeats 4000000 in
set_option maxRecDepth 100000 in
theorem law_18 {Z : zZ} {p : Program} {l : Launch} {e : Env} {s : State} {m : MethodId} {args : Array Value} {below : List Frame} {meth : Method} {c : Code} {ad0 : Nat → Nat} {h0 : zH} {Q : State → Prop} {L : Nat} {xs : Nat → Int32} {st : zTs} {i : Int32} {cells slots : Nat} {a1 : Int32} (hfl : l.stackTraces = false) (C : zC Z p s m args meth c cL_law 8 RL) (X : zSx Z s L xs) (h : qR st) (x1 : vp_in (i + 1) L ∧ xs (i + 1).toNatClampNeg = a1) (hc : cells + 30 ≤ room_1.cells) (hs : slots + 8828 ≤ room_1.slots) (hK : ∀ x st1, qR st1 → zG Z ad0 h0 p l e room_1 s m args below meth c Q (cells + 30) (slots + 8828) (zh (zZx Z x) zm1 st1) 8 3262 [some (.ref 208), some (.ref 10), some (.ref 100), some (.ref 9), some (.int i), none, none, none] []) : zG Z ad0 h0 p l e room_1 s m args below meth c Q cells slots (zh Z zm1 st) 8 1444 [some (.ref 208), some (.ref 10), some (.ref 100), some (.ref 9), some (.int i), none, none, none] [] := by
  refine z_aload_n C dL_law_1444 (i := 1) rfl rfl ?_
  refine z_aload_n C dL_law_1445 (i := 0) rfl rfl ?_
  refine z_iload C dL_law_1446 (i := 4) rfl ?_
  refine z_iconst C dL_law_1448 (v := 1) (by decide) ?_
  refine z_iadd C dL_law_1449 ?_
  refine t_sld C X dL_law_1450 x1.1 ?_
  rw [x1.2]
  refine z_aload_n C dL_law_1451 (i := 3) rfl rfl ?_
  refine t_callSO C (rest := []) (c2 := cells + 30) (s2 := slots + 8828) [.ref 10, .int a1, .ref 9] dL_law_1452 lw_L_begin (c_L_begin hfl (P1 := fun kc x s9 => ∃ r : Int32, (kc = 0 → x = zjn r.toInt64) ∧ w_X12_begin s9 a1 (zOK kc r)) (b_begin h) (fun k9 s9 hx => by obtain ⟨rfl, hx⟩ := hx; exact ⟨rfl, fun _ => ⟨0, fun z => absurd z (by decide), hx⟩⟩) (fun r s9 hp => ⟨r, fun _ => rfl, hp⟩)) rfl rfl ⟨Nat.le_of_ble_eq_true rfl, Nat.le_of_ble_eq_true rfl⟩ (Nat.le_of_ble_eq_true rfl) ⟨Nat.add_le_add_left (Nat.le_of_ble_eq_true rfl) _, Nat.add_le_add_left (Nat.le_of_ble_eq_true rfl) _, hc, hs⟩ (k_Wx fun kc x s9 hp => ?_)
  obtain ⟨r, hx, hw⟩ := hp
  have C1 := zC_x C x
  have X1 : zSx (zZx Z x) s L xs := X
  refine z_istore C1 dL_law_1455 (lc' := [some (.ref 208), some (.ref 10), some (.ref 100), some (.ref 9), some (.int i), some (.int kc), none, none]) (by decide) rfl ?_
  refine z_aload_n C1 dL_law_1457 (i := 2) rfl rfl ?_
  refine z_aload_n C1 dL_law_1458 (i := 0) rfl rfl ?_
  refine z_iload C1 dL_law_1459 (i := 4) rfl ?_
  refine z_iconst C1 dL_law_1461 (v := 1) (by decide) ?_
  refine z_iadd C1 dL_law_1462 ?_
  refine t_sld C1 X1 dL_law_1463 x1.1 ?_
  rw [x1.2]
  refine t_callV C1 (rest := []) (c2 := cells + 30) (s2 := slots + 8828) (kd := 100) (i := 0) [.int a1] dL_law_1464 lk_L_221 li_X12_begin le_X12_begin (c_X12_begin hfl hw) rfl rfl (by decide) rfl ⟨_, rfl⟩ rfl ⟨Nat.le_of_ble_eq_true rfl, Nat.le_of_ble_eq_true rfl⟩ (Nat.le_of_ble_eq_true rfl) ⟨Nat.le_refl _, Nat.le_refl _, hc, hs⟩ (k_Wi fun b s2 hb => ?_)
  refine z_istore C1 dL_law_1467 (lc' := [some (.ref 208), some (.ref 10), some (.ref 100), some (.ref 9), some (.int i), some (.int kc), some (.int b), none]) (by decide) rfl ?_
  refine z_aload_n C1 dL_law_1469 (i := 2) rfl rfl ?_
  refine t_callV C1 (rest := []) (c2 := cells + 30) (s2 := slots + 8828) (kd := 100) (i := 0) [] dL_law_1470 lk_L_156 li_X12_thrown le_X12_thrown (c_X12_thrown hfl (P := fun r => r = kc) hb.1) rfl rfl (by decide) rfl ⟨_, rfl⟩ rfl ⟨Nat.le_of_ble_eq_true rfl, Nat.le_of_ble_eq_true rfl⟩ (Nat.le_of_ble_eq_true rfl) ⟨Nat.le_refl _, Nat.le_refl _, hc, hs⟩ (k_Ri fun t ht => ?_)
  refine z_iload C1 dL_law_1473 (i := 5) rfl ?_
  refine z_icmp_eq C1 dL_law_1475 (tgt := 1480) (by decide) (fun _ => ?_) (fun z => absurd ht z)
  refine z_iload C1 dL_law_1480 (i := 5) rfl ?_
  refine z_if_ne C1 dL_law_1482 (tgt := 1497) (by decide) (fun _ => ?_) (fun k0 => ?_)
  · refine z_goto C1 dL_law_1497 (tgt := 3262) (by decide) ?_
    exact t_drop [true, true, true, true, true, false, false, false] rfl (zG_y x (hK x s2 hb.2.2))
  · refine z_aload_n C1 dL_law_1485 (i := 3) rfl rfl ?_
    refine z_iconst C1 dL_law_1486 (v := 0) (by decide) ?_
    refine t_jld C1 dL_law_1487 rfl ?_
    refine z_iload C1 dL_law_1488 (i := 6) rfl ?_
    refine z_i2l C1 dL_law_1490 ?_
    refine z_lcmp C1 dL_law_1491 ?_
    refine z_if_eq C1 dL_law_1492 (tgt := 1497) (by decide) (fun _ => ?_) (fun z => absurd (by rw [hb.2.1 k0]; exact zcmp0 (hx k0)) z)
    refine z_goto C1 dL_law_1497 (tgt := 3262) (by decide) ?_
    exact t_drop [true, true, true, true, true, false, false, false] rfl (zG_y x (hK x s2 hb.2.2))
set_option maxHeartbeats 4000000 in
set_option maxRecDepth 100000 in
theorem law_19 {Z : zZ} {p : Program} {l : Launch} {e : Env} {s : State} {m : MethodId} {args : Array Value} {below : List Frame} {meth : Method} {c : Code} {ad0 : Nat → Nat} {h0 : zH} {Q : State → Prop} {L : Nat} {xs : Nat → Int32} {st : zTs} {i : Int32} {cells slots : Nat} {a1 : Int32} (hfl : l.stackTraces = false) (C : zC Z p s m args meth c cL_law 8 RL) (X : zSx Z s L xs) (h : qR st) (x1 : vp_in (i + 1) L ∧ xs (i + 1).toNatClampNeg = a1) (hc : cells + 30 ≤ room_1.cells) (hs : slots + 8828 ≤ room_1.slots) (hK : ∀ x st1, qR st1 → zG Z ad0 h0 p l e room_1 s m args below meth c Q (cells + 30) (slots + 8828) (zh (zZx Z x) zm1 st1) 8 3262 [some (.ref 208), some (.ref 10), some (.ref 100), some (.ref 9), some (.int i), none, none, none] []) : zG Z ad0 h0 p l e room_1 s m args below meth c Q cells slots (zh Z zm1 st) 8 1500 [some (.ref 208), some (.ref 10), some (.ref 100), some (.ref 9), some (.int i), none, none, none] [] := by
  refine z_aload_n C dL_law_1500 (i := 1) rfl rfl ?_
  refine z_aload_n C dL_law_1501 (i := 0) rfl rfl ?_
  refine z_iload C dL_law_1502 (i := 4) rfl ?_
  refine z_iconst C dL_law_1504 (v := 1) (by decide) ?_
  refine z_iadd C dL_law_1505 ?_
  refine t_sld C X dL_law_1506 x1.1 ?_
  rw [x1.2]
  refine z_aload_n C dL_law_1507 (i := 3) rfl rfl ?_
  refine t_callSO C (rest := []) (c2 := cells + 30) (s2 := slots + 8828) [.ref 10, .int a1, .ref 9] dL_law_1508 lw_L_done (c_L_done hfl (P1 := fun kc x s9 => ∃ r : Int32, (kc = 0 → x = zjn r.toInt64) ∧ w_X12_done s9 a1 (zOK kc r)) (b_done h) (fun k9 s9 hx => by obtain ⟨rfl, hx⟩ := hx; exact ⟨rfl, fun _ => ⟨0, fun z => absurd z (by decide), hx⟩⟩) (fun r s9 hp => ⟨r, fun _ => rfl, hp⟩)) rfl rfl ⟨Nat.le_of_ble_eq_true rfl, Nat.le_of_ble_eq_true rfl⟩ (Nat.le_of_ble_eq_true rfl) ⟨Nat.add_le_add_left (Nat.le_of_ble_eq_true rfl) _, Nat.add_le_add_left (Nat.le_of_ble_eq_true rfl) _, hc, hs⟩ (k_Wx fun kc x s9 hp => ?_)
  obtain ⟨r, hx, hw⟩ := hp
  have C1 := zC_x C x
  have X1 : zSx (zZx Z x) s L xs := X
  refine z_istore C1 dL_law_1511 (lc' := [some (.ref 208), some (.ref 10), some (.ref 100), some (.ref 9), some (.int i), some (.int kc), none, none]) (by decide) rfl ?_
  refine z_aload_n C1 dL_law_1513 (i := 2) rfl rfl ?_
  refine z_aload_n C1 dL_law_1514 (i := 0) rfl rfl ?_
  refine z_iload C1 dL_law_1515 (i := 4) rfl ?_
  refine z_iconst C1 dL_law_1517 (v := 1) (by decide) ?_
  refine z_iadd C1 dL_law_1518 ?_
  refine t_sld C1 X1 dL_law_1519 x1.1 ?_
  rw [x1.2]
  refine t_callV C1 (rest := []) (c2 := cells + 30) (s2 := slots + 8828) (kd := 100) (i := 0) [.int a1] dL_law_1520 lk_L_224 li_X12_done le_X12_done (c_X12_done hfl hw) rfl rfl (by decide) rfl ⟨_, rfl⟩ rfl ⟨Nat.le_of_ble_eq_true rfl, Nat.le_of_ble_eq_true rfl⟩ (Nat.le_of_ble_eq_true rfl) ⟨Nat.le_refl _, Nat.le_refl _, hc, hs⟩ (k_Wi fun b s2 hb => ?_)
  refine z_istore C1 dL_law_1523 (lc' := [some (.ref 208), some (.ref 10), some (.ref 100), some (.ref 9), some (.int i), some (.int kc), some (.int b), none]) (by decide) rfl ?_
  refine z_aload_n C1 dL_law_1525 (i := 2) rfl rfl ?_
  refine t_callV C1 (rest := []) (c2 := cells + 30) (s2 := slots + 8828) (kd := 100) (i := 0) [] dL_law_1526 lk_L_156 li_X12_thrown le_X12_thrown (c_X12_thrown hfl (P := fun r => r = kc) hb.1) rfl rfl (by decide) rfl ⟨_, rfl⟩ rfl ⟨Nat.le_of_ble_eq_true rfl, Nat.le_of_ble_eq_true rfl⟩ (Nat.le_of_ble_eq_true rfl) ⟨Nat.le_refl _, Nat.le_refl _, hc, hs⟩ (k_Ri fun t ht => ?_)
  refine z_iload C1 dL_law_1529 (i := 5) rfl ?_
  refine z_icmp_eq C1 dL_law_1531 (tgt := 1536) (by decide) (fun _ => ?_) (fun z => absurd ht z)
  refine z_iload C1 dL_law_1536 (i := 5) rfl ?_
  refine z_if_ne C1 dL_law_1538 (tgt := 1553) (by decide) (fun _ => ?_) (fun k0 => ?_)
  · refine z_goto C1 dL_law_1553 (tgt := 3262) (by decide) ?_
    exact t_drop [true, true, true, true, true, false, false, false] rfl (zG_y x (hK x s2 hb.2.2))
  · refine z_aload_n C1 dL_law_1541 (i := 3) rfl rfl ?_
    refine z_iconst C1 dL_law_1542 (v := 0) (by decide) ?_
    refine t_jld C1 dL_law_1543 rfl ?_
    refine z_iload C1 dL_law_1544 (i := 6) rfl ?_
    refine z_i2l C1 dL_law_1546 ?_
    refine z_lcmp C1 dL_law_1547 ?_
    refine z_if_eq C1 dL_law_1548 (tgt := 1553) (by decide) (fun _ => ?_) (fun z => absurd (by rw [hb.2.1 k0]; exact zcmp0 (hx k0)) z)
    refine z_goto C1 dL_law_1553 (tgt := 3262) (by decide) ?_
    exact t_drop [true, true, true, true, true, false, false, false] rfl (zG_y x (hK x s2 hb.2.2))
set_option maxHeartbeats 4000000 in
set_option maxRecDepth 100000 in
theorem law_20 {Z : zZ} {p : Program} {l : Launch} {e : Env} {s : State} {m : MethodId} {args : Array Value} {below : List Frame} {meth : Method} {c : Code} {ad0 : Nat → Nat} {h0 : zH} {Q : State → Prop} {L : Nat} {xs : Nat → Int32} {st : zTs} {i : Int32} {cells slots : Nat} {a1 : Int32} {a2 : Int32} (hfl : l.stackTraces = false) (C : zC Z p s m args meth c cL_law 8 RL) (X : zSx Z s L xs) (h : qR st) (x1 : vp_in (i + 1) L ∧ xs (i + 1).toNatClampNeg = a1) (x2 : vp_in (i + 2) L ∧ xs (i + 2).toNatClampNeg = a2) (hc : cells + 30 ≤ room_1.cells) (hs : slots + 8828 ≤ room_1.slots) (hK : ∀ x st1, qR st1 → zG Z ad0 h0 p l e room_1 s m args below meth c Q (cells + 30) (slots + 8828) (zh (zZx Z x) zm1 st1) 8 3262 [some (.ref 208), some (.ref 10), some (.ref 100), some (.ref 9), some (.int i), none, none, none] []) : zG Z ad0 h0 p l e room_1 s m args below meth c Q cells slots (zh Z zm1 st) 8 1556 [some (.ref 208), some (.ref 10), some (.ref 100), some (.ref 9), some (.int i), none, none, none] [] := by
  refine z_aload_n C dL_law_1556 (i := 1) rfl rfl ?_
  refine z_aload_n C dL_law_1557 (i := 0) rfl rfl ?_
  refine z_iload C dL_law_1558 (i := 4) rfl ?_
  refine z_iconst C dL_law_1560 (v := 1) (by decide) ?_
  refine z_iadd C dL_law_1561 ?_
  refine t_sld C X dL_law_1562 x1.1 ?_
  rw [x1.2]
  refine z_aload_n C dL_law_1563 (i := 0) rfl rfl ?_
  refine z_iload C dL_law_1564 (i := 4) rfl ?_
  refine z_iconst C dL_law_1566 (v := 2) (by decide) ?_
  refine z_iadd C dL_law_1567 ?_
  refine t_sld C X dL_law_1568 x2.1 ?_
  rw [x2.2]
  refine z_aload_n C dL_law_1569 (i := 3) rfl rfl ?_
  refine t_callSO C (rest := []) (c2 := cells + 30) (s2 := slots + 8828) [.ref 10, .int a1, .int a2, .ref 9] dL_law_1570 lw_L_enter (c_L_enter hfl (P1 := fun kc x s9 => ∃ r : Int32, (kc = 0 → x = zjn r.toInt64) ∧ w_X12_enter s9 a1 a2 (zOK kc r)) (b_enter h) (fun k9 s9 hx => by rcases hx with ⟨rfl, hx⟩ | ⟨rfl, hx⟩ <;> first | exact Or.inl ⟨rfl, fun _ => ⟨0, fun z => absurd z (by decide), hx⟩⟩ | exact Or.inr (⟨rfl, fun _ => ⟨0, fun z => absurd z (by decide), hx⟩⟩)) (fun r s9 hp => ⟨r, fun _ => rfl, hp⟩)) rfl rfl ⟨Nat.le_of_ble_eq_true rfl, Nat.le_of_ble_eq_true rfl⟩ (Nat.le_of_ble_eq_true rfl) ⟨Nat.add_le_add_left (Nat.le_of_ble_eq_true rfl) _, Nat.add_le_add_left (Nat.le_of_ble_eq_true rfl) _, hc, hs⟩ (k_Wx fun kc x s9 hp => ?_)
  obtain ⟨r, hx, hw⟩ := hp
  have C1 := zC_x C x
  have X1 : zSx (zZx Z x) s L xs := X
  refine z_istore C1 dL_law_1573 (lc' := [some (.ref 208), some (.ref 10), some (.ref 100), some (.ref 9), some (.int i), some (.int kc), none, none]) (by decide) rfl ?_
  refine z_aload_n C1 dL_law_1575 (i := 2) rfl rfl ?_
  refine z_aload_n C1 dL_law_1576 (i := 0) rfl rfl ?_
  refine z_iload C1 dL_law_1577 (i := 4) rfl ?_
  refine z_iconst C1 dL_law_1579 (v := 1) (by decide) ?_
  refine z_iadd C1 dL_law_1580 ?_
  refine t_sld C1 X1 dL_law_1581 x1.1 ?_
  rw [x1.2]
  refine z_aload_n C1 dL_law_1582 (i := 0) rfl rfl ?_
  refine z_iload C1 dL_law_1583 (i := 4) rfl ?_
  refine z_iconst C1 dL_law_1585 (v := 2) (by decide) ?_
  refine z_iadd C1 dL_law_1586 ?_
  refine t_sld C1 X1 dL_law_1587 x2.1 ?_
  rw [x2.2]
  refine t_callV C1 (rest := []) (c2 := cells + 30) (s2 := slots + 8828) (kd := 100) (i := 0) [.int a1, .int a2] dL_law_1588 lk_L_227 li_X12_enter le_X12_enter (c_X12_enter hfl hw) rfl rfl (by decide) rfl ⟨_, rfl⟩ rfl ⟨Nat.le_of_ble_eq_true rfl, Nat.le_of_ble_eq_true rfl⟩ (Nat.le_of_ble_eq_true rfl) ⟨Nat.le_refl _, Nat.le_refl _, hc, hs⟩ (k_Wi fun b s2 hb => ?_)
  refine z_istore C1 dL_law_1591 (lc' := [some (.ref 208), some (.ref 10), some (.ref 100), some (.ref 9), some (.int i), some (.int kc), some (.int b), none]) (by decide) rfl ?_
  refine z_aload_n C1 dL_law_1593 (i := 2) rfl rfl ?_
  refine t_callV C1 (rest := []) (c2 := cells + 30) (s2 := slots + 8828) (kd := 100) (i := 0) [] dL_law_1594 lk_L_156 li_X12_thrown le_X12_thrown (c_X12_thrown hfl (P := fun r => r = kc) hb.1) rfl rfl (by decide) rfl ⟨_, rfl⟩ rfl ⟨Nat.le_of_ble_eq_true rfl, Nat.le_of_ble_eq_true rfl⟩ (Nat.le_of_ble_eq_true rfl) ⟨Nat.le_refl _, Nat.le_refl _, hc, hs⟩ (k_Ri fun t ht => ?_)
  refine z_iload C1 dL_law_1597 (i := 5) rfl ?_
  refine z_icmp_eq C1 dL_law_1599 (tgt := 1604) (by decide) (fun _ => ?_) (fun z => absurd ht z)
  refine z_iload C1 dL_law_1604 (i := 5) rfl ?_
  refine z_if_ne C1 dL_law_1606 (tgt := 1621) (by decide) (fun _ => ?_) (fun k0 => ?_)
  · refine z_goto C1 dL_law_1621 (tgt := 3262) (by decide) ?_
    exact t_drop [true, true, true, true, true, false, false, false] rfl (zG_y x (hK x s2 hb.2.2))
  · refine z_aload_n C1 dL_law_1609 (i := 3) rfl rfl ?_
    refine z_iconst C1 dL_law_1610 (v := 0) (by decide) ?_
    refine t_jld C1 dL_law_1611 rfl ?_
    refine z_iload C1 dL_law_1612 (i := 6) rfl ?_
    refine z_i2l C1 dL_law_1614 ?_
    refine z_lcmp C1 dL_law_1615 ?_
    refine z_if_eq C1 dL_law_1616 (tgt := 1621) (by decide) (fun _ => ?_) (fun z => absurd (by rw [hb.2.1 k0]; exact zcmp0 (hx k0)) z)
    refine z_goto C1 dL_law_1621 (tgt := 3262) (by decide) ?_
    exact t_drop [true, true, true, true, true, false, false, false] rfl (zG_y x (hK x s2 hb.2.2))
set_option maxHeartbeats 4000000 in
set_option maxRecDepth 100000 in
theorem law_21 {Z : zZ} {p : Program} {l : Launch} {e : Env} {s : State} {m : MethodId} {args : Array Value} {below : List Frame} {meth : Method} {c : Code} {ad0 : Nat → Nat} {h0 : zH} {Q : State → Prop} {L : Nat} {xs : Nat → Int32} {st : zTs} {i : Int32} {cells slots : Nat} {a1 : Int32} {a2 : Int32} (hfl : l.stackTraces = false) (C : zC Z p s m args meth c cL_law 8 RL) (X : zSx Z s L xs) (h : qR st) (x1 : vp_in (i + 1) L ∧ xs (i + 1).toNatClampNeg = a1) (x2 : vp_in (i + 2) L ∧ xs (i + 2).toNatClampNeg = a2) (hc : cells + 30 ≤ room_1.cells) (hs : slots + 8828 ≤ room_1.slots) (hK : ∀ x st1, qR st1 → zG Z ad0 h0 p l e room_1 s m args below meth c Q (cells + 30) (slots + 8828) (zh (zZx Z x) zm1 st1) 8 3262 [some (.ref 208), some (.ref 10), some (.ref 100), some (.ref 9), some (.int i), none, none, none] []) : zG Z ad0 h0 p l e room_1 s m args below meth c Q cells slots (zh Z zm1 st) 8 1624 [some (.ref 208), some (.ref 10), some (.ref 100), some (.ref 9), some (.int i), none, none, none] [] := by
  refine z_aload_n C dL_law_1624 (i := 1) rfl rfl ?_
  refine z_aload_n C dL_law_1625 (i := 0) rfl rfl ?_
  refine z_iload C dL_law_1626 (i := 4) rfl ?_
  refine z_iconst C dL_law_1628 (v := 1) (by decide) ?_
  refine z_iadd C dL_law_1629 ?_
  refine t_sld C X dL_law_1630 x1.1 ?_
  rw [x1.2]
  refine z_aload_n C dL_law_1631 (i := 0) rfl rfl ?_
  refine z_iload C dL_law_1632 (i := 4) rfl ?_
  refine z_iconst C dL_law_1634 (v := 2) (by decide) ?_
  refine z_iadd C dL_law_1635 ?_
  refine t_sld C X dL_law_1636 x2.1 ?_
  rw [x2.2]
  refine z_aload_n C dL_law_1637 (i := 3) rfl rfl ?_
  refine t_callSO C (rest := []) (c2 := cells + 30) (s2 := slots + 8828) [.ref 10, .int a1, .int a2, .ref 9] dL_law_1638 lw_L_entries (c_L_entries hfl (P1 := fun kc x s9 => ∃ r : Int32, (kc = 0 → x = zjn r.toInt64) ∧ w_X12_entries s9 a1 a2 (zOK kc r)) (b_entries h) (fun k9 s9 hx => by rcases hx with ⟨rfl, hx⟩ | ⟨rfl, hx⟩ <;> first | exact Or.inl ⟨rfl, fun _ => ⟨0, fun z => absurd z (by decide), hx⟩⟩ | exact Or.inr (⟨rfl, fun _ => ⟨0, fun z => absurd z (by decide), hx⟩⟩)) (fun r s9 hp => ⟨r, fun _ => rfl, hp⟩)) rfl rfl ⟨Nat.le_of_ble_eq_true rfl, Nat.le_of_ble_eq_true rfl⟩ (Nat.le_of_ble_eq_true rfl) ⟨Nat.add_le_add_left (Nat.le_of_ble_eq_true rfl) _, Nat.add_le_add_left (Nat.le_of_ble_eq_true rfl) _, hc, hs⟩ (k_Wx fun kc x s9 hp => ?_)
  obtain ⟨r, hx, hw⟩ := hp
  have C1 := zC_x C x
  have X1 : zSx (zZx Z x) s L xs := X
  refine z_istore C1 dL_law_1641 (lc' := [some (.ref 208), some (.ref 10), some (.ref 100), some (.ref 9), some (.int i), some (.int kc), none, none]) (by decide) rfl ?_
  refine z_aload_n C1 dL_law_1643 (i := 2) rfl rfl ?_
  refine z_aload_n C1 dL_law_1644 (i := 0) rfl rfl ?_
  refine z_iload C1 dL_law_1645 (i := 4) rfl ?_
  refine z_iconst C1 dL_law_1647 (v := 1) (by decide) ?_
  refine z_iadd C1 dL_law_1648 ?_
  refine t_sld C1 X1 dL_law_1649 x1.1 ?_
  rw [x1.2]
  refine z_aload_n C1 dL_law_1650 (i := 0) rfl rfl ?_
  refine z_iload C1 dL_law_1651 (i := 4) rfl ?_
  refine z_iconst C1 dL_law_1653 (v := 2) (by decide) ?_
  refine z_iadd C1 dL_law_1654 ?_
  refine t_sld C1 X1 dL_law_1655 x2.1 ?_
  rw [x2.2]
  refine t_callV C1 (rest := []) (c2 := cells + 30) (s2 := slots + 8828) (kd := 100) (i := 0) [.int a1, .int a2] dL_law_1656 lk_L_230 li_X12_entries le_X12_entries (c_X12_entries hfl hw) rfl rfl (by decide) rfl ⟨_, rfl⟩ rfl ⟨Nat.le_of_ble_eq_true rfl, Nat.le_of_ble_eq_true rfl⟩ (Nat.le_of_ble_eq_true rfl) ⟨Nat.le_refl _, Nat.le_refl _, hc, hs⟩ (k_Wi fun b s2 hb => ?_)
  refine z_istore C1 dL_law_1659 (lc' := [some (.ref 208), some (.ref 10), some (.ref 100), some (.ref 9), some (.int i), some (.int kc), some (.int b), none]) (by decide) rfl ?_
  refine z_aload_n C1 dL_law_1661 (i := 2) rfl rfl ?_
  refine t_callV C1 (rest := []) (c2 := cells + 30) (s2 := slots + 8828) (kd := 100) (i := 0) [] dL_law_1662 lk_L_156 li_X12_thrown le_X12_thrown (c_X12_thrown hfl (P := fun r => r = kc) hb.1) rfl rfl (by decide) rfl ⟨_, rfl⟩ rfl ⟨Nat.le_of_ble_eq_true rfl, Nat.le_of_ble_eq_true rfl⟩ (Nat.le_of_ble_eq_true rfl) ⟨Nat.le_refl _, Nat.le_refl _, hc, hs⟩ (k_Ri fun t ht => ?_)
  refine z_iload C1 dL_law_1665 (i := 5) rfl ?_
  refine z_icmp_eq C1 dL_law_1667 (tgt := 1672) (by decide) (fun _ => ?_) (fun z => absurd ht z)
  refine z_iload C1 dL_law_1672 (i := 5) rfl ?_
  refine z_if_ne C1 dL_law_1674 (tgt := 1689) (by decide) (fun _ => ?_) (fun k0 => ?_)
  · refine z_goto C1 dL_law_1689 (tgt := 3262) (by decide) ?_
    exact t_drop [true, true, true, true, true, false, false, false] rfl (zG_y x (hK x s2 hb.2.2))
  · refine z_aload_n C1 dL_law_1677 (i := 3) rfl rfl ?_
    refine z_iconst C1 dL_law_1678 (v := 0) (by decide) ?_
    refine t_jld C1 dL_law_1679 rfl ?_
    refine z_iload C1 dL_law_1680 (i := 6) rfl ?_
    refine z_i2l C1 dL_law_1682 ?_
    refine z_lcmp C1 dL_law_1683 ?_
    refine z_if_eq C1 dL_law_1684 (tgt := 1689) (by decide) (fun _ => ?_) (fun z => absurd (by rw [hb.2.1 k0]; exact zcmp0 (hx k0)) z)
    refine z_goto C1 dL_law_1689 (tgt := 3262) (by decide) ?_
    exact t_drop [true, true, true, true, true, false, false, false] rfl (zG_y x (hK x s2 hb.2.2))
set_option maxHeartbeats 4000000 in
set_option maxRecDepth 100000 in
theorem law_22 {Z : zZ} {p : Program} {l : Launch} {e : Env} {s : State} {m : MethodId} {args : Array Value} {below : List Frame} {meth : Method} {c : Code} {ad0 : Nat → Nat} {h0 : zH} {Q : State → Prop} {L : Nat} {xs : Nat → Int32} {st : zTs} {i : Int32} {cells slots : Nat} {a1 : Int32} {a2 : Int32} {a3 : Int32} {a4 : Int32} {a5 : Int32} (hfl : l.stackTraces = false) (C : zC Z p s m args meth c cL_law 8 RL) (X : zSx Z s L xs) (h : qR st) (x1 : vp_in (i + 1) L ∧ xs (i + 1).toNatClampNeg = a1) (x2 : vp_in (i + 2) L ∧ xs (i + 2).toNatClampNeg = a2) (x3 : vp_in (i + 3) L ∧ xs (i + 3).toNatClampNeg = a3) (x4 : vp_in (i + 4) L ∧ xs (i + 4).toNatClampNeg = a4) (x5 : vp_in (i + 5) L ∧ xs (i + 5).toNatClampNeg = a5) (hc : cells + 30 ≤ room_1.cells) (hs : slots + 8828 ≤ room_1.slots) (hK : ∀ x st1, qR st1 → zG Z ad0 h0 p l e room_1 s m args below meth c Q (cells + 30) (slots + 8828) (zh (zZx Z x) zm1 st1) 8 3262 [some (.ref 208), some (.ref 10), some (.ref 100), some (.ref 9), some (.int i), none, none, none] []) : zG Z ad0 h0 p l e room_1 s m args below meth c Q cells slots (zh Z zm1 st) 8 1692 [some (.ref 208), some (.ref 10), some (.ref 100), some (.ref 9), some (.int i), none, none, none] [] := by
  refine z_aload_n C dL_law_1692 (i := 1) rfl rfl ?_
  refine z_aload_n C dL_law_1693 (i := 0) rfl rfl ?_
  refine z_iload C dL_law_1694 (i := 4) rfl ?_
  refine z_iconst C dL_law_1696 (v := 1) (by decide) ?_
  refine z_iadd C dL_law_1697 ?_
  refine t_sld C X dL_law_1698 x1.1 ?_
  rw [x1.2]
  refine z_aload_n C dL_law_1699 (i := 0) rfl rfl ?_
  refine z_iload C dL_law_1700 (i := 4) rfl ?_
  refine z_iconst C dL_law_1702 (v := 2) (by decide) ?_
  refine z_iadd C dL_law_1703 ?_
  refine t_sld C X dL_law_1704 x2.1 ?_
  rw [x2.2]
  refine z_aload_n C dL_law_1705 (i := 0) rfl rfl ?_
  refine z_iload C dL_law_1706 (i := 4) rfl ?_
  refine z_iconst C dL_law_1708 (v := 3) (by decide) ?_
  refine z_iadd C dL_law_1709 ?_
  refine t_sld C X dL_law_1710 x3.1 ?_
  rw [x3.2]
  refine z_aload_n C dL_law_1711 (i := 0) rfl rfl ?_
  refine z_iload C dL_law_1712 (i := 4) rfl ?_
  refine z_iconst C dL_law_1714 (v := 4) (by decide) ?_
  refine z_iadd C dL_law_1715 ?_
  refine t_sld C X dL_law_1716 x4.1 ?_
  rw [x4.2]
  refine z_aload_n C dL_law_1717 (i := 0) rfl rfl ?_
  refine z_iload C dL_law_1718 (i := 4) rfl ?_
  refine z_iconst C dL_law_1720 (v := 5) (by decide) ?_
  refine z_iadd C dL_law_1721 ?_
  refine t_sld C X dL_law_1722 x5.1 ?_
  rw [x5.2]
  refine z_aload_n C dL_law_1723 (i := 3) rfl rfl ?_
  refine t_callSO C (rest := []) (c2 := cells + 30) (s2 := slots + 8828) [.ref 10, .int a1, .int a2, .int a3, .int a4, .int a5, .ref 9] dL_law_1724 lw_L_build (c_L_build hfl (P1 := fun kc x s9 => ∃ r : Int32, (kc = 0 → x = zjn r.toInt64) ∧ w_X12_build s9 a1 a2 a3 a4 a5 (zOK kc r)) (b_build h) (fun k9 s9 hx => by rcases hx with ⟨rfl, hx⟩ | ⟨rfl, hx⟩ <;> first | exact Or.inl ⟨rfl, fun _ => ⟨0, fun z => absurd z (by decide), hx⟩⟩ | exact Or.inr (⟨rfl, fun _ => ⟨0, fun z => absurd z (by decide), hx⟩⟩)) (fun r s9 hp => ⟨r, fun _ => rfl, hp⟩)) rfl rfl ⟨Nat.le_of_ble_eq_true rfl, Nat.le_of_ble_eq_true rfl⟩ (Nat.le_of_ble_eq_true rfl) ⟨Nat.add_le_add_left (Nat.le_of_ble_eq_true rfl) _, Nat.add_le_add_left (Nat.le_of_ble_eq_true rfl) _, hc, hs⟩ (k_Wx fun kc x s9 hp => ?_)
  obtain ⟨r, hx, hw⟩ := hp
  have C1 := zC_x C x
  have X1 : zSx (zZx Z x) s L xs := X
  refine z_istore C1 dL_law_1727 (lc' := [some (.ref 208), some (.ref 10), some (.ref 100), some (.ref 9), some (.int i), some (.int kc), none, none]) (by decide) rfl ?_
  refine z_aload_n C1 dL_law_1729 (i := 2) rfl rfl ?_
  refine z_aload_n C1 dL_law_1730 (i := 0) rfl rfl ?_
  refine z_iload C1 dL_law_1731 (i := 4) rfl ?_
  refine z_iconst C1 dL_law_1733 (v := 1) (by decide) ?_
  refine z_iadd C1 dL_law_1734 ?_
  refine t_sld C1 X1 dL_law_1735 x1.1 ?_
  rw [x1.2]
  refine z_aload_n C1 dL_law_1736 (i := 0) rfl rfl ?_
  refine z_iload C1 dL_law_1737 (i := 4) rfl ?_
  refine z_iconst C1 dL_law_1739 (v := 2) (by decide) ?_
  refine z_iadd C1 dL_law_1740 ?_
  refine t_sld C1 X1 dL_law_1741 x2.1 ?_
  rw [x2.2]
  refine z_aload_n C1 dL_law_1742 (i := 0) rfl rfl ?_
  refine z_iload C1 dL_law_1743 (i := 4) rfl ?_
  refine z_iconst C1 dL_law_1745 (v := 3) (by decide) ?_
  refine z_iadd C1 dL_law_1746 ?_
  refine t_sld C1 X1 dL_law_1747 x3.1 ?_
  rw [x3.2]
  refine z_aload_n C1 dL_law_1748 (i := 0) rfl rfl ?_
  refine z_iload C1 dL_law_1749 (i := 4) rfl ?_
  refine z_iconst C1 dL_law_1751 (v := 4) (by decide) ?_
  refine z_iadd C1 dL_law_1752 ?_
  refine t_sld C1 X1 dL_law_1753 x4.1 ?_
  rw [x4.2]
  refine z_aload_n C1 dL_law_1754 (i := 0) rfl rfl ?_
  refine z_iload C1 dL_law_1755 (i := 4) rfl ?_
  refine z_iconst C1 dL_law_1757 (v := 5) (by decide) ?_
  refine z_iadd C1 dL_law_1758 ?_
  refine t_sld C1 X1 dL_law_1759 x5.1 ?_
  rw [x5.2]
  refine t_callV C1 (rest := []) (c2 := cells + 30) (s2 := slots + 8828) (kd := 100) (i := 0) [.int a1, .int a2, .int a3, .int a4, .int a5] dL_law_1760 lk_L_233 li_X12_build le_X12_build (c_X12_build hfl hw) rfl rfl (by decide) rfl ⟨_, rfl⟩ rfl ⟨Nat.le_of_ble_eq_true rfl, Nat.le_of_ble_eq_true rfl⟩ (Nat.le_of_ble_eq_true rfl) ⟨Nat.le_refl _, Nat.le_refl _, hc, hs⟩ (k_Wi fun b s2 hb => ?_)
  refine z_istore C1 dL_law_1763 (lc' := [some (.ref 208), some (.ref 10), some (.ref 100), some (.ref 9), some (.int i), some (.int kc), some (.int b), none]) (by decide) rfl ?_
  refine z_aload_n C1 dL_law_1765 (i := 2) rfl rfl ?_
  refine t_callV C1 (rest := []) (c2 := cells + 30) (s2 := slots + 8828) (kd := 100) (i := 0) [] dL_law_1766 lk_L_156 li_X12_thrown le_X12_thrown (c_X12_thrown hfl (P := fun r => r = kc) hb.1) rfl rfl (by decide) rfl ⟨_, rfl⟩ rfl ⟨Nat.le_of_ble_eq_true rfl, Nat.le_of_ble_eq_true rfl⟩ (Nat.le_of_ble_eq_true rfl) ⟨Nat.le_refl _, Nat.le_refl _, hc, hs⟩ (k_Ri fun t ht => ?_)
  refine z_iload C1 dL_law_1769 (i := 5) rfl ?_
  refine z_icmp_eq C1 dL_law_1771 (tgt := 1776) (by decide) (fun _ => ?_) (fun z => absurd ht z)
  refine z_iload C1 dL_law_1776 (i := 5) rfl ?_
  refine z_if_ne C1 dL_law_1778 (tgt := 1793) (by decide) (fun _ => ?_) (fun k0 => ?_)
  · refine z_goto C1 dL_law_1793 (tgt := 3262) (by decide) ?_
    exact t_drop [true, true, true, true, true, false, false, false] rfl (zG_y x (hK x s2 hb.2.2))
  · refine z_aload_n C1 dL_law_1781 (i := 3) rfl rfl ?_
    refine z_iconst C1 dL_law_1782 (v := 0) (by decide) ?_
    refine t_jld C1 dL_law_1783 rfl ?_
    refine z_iload C1 dL_law_1784 (i := 6) rfl ?_
    refine z_i2l C1 dL_law_1786 ?_
    refine z_lcmp C1 dL_law_1787 ?_
    refine z_if_eq C1 dL_law_1788 (tgt := 1793) (by decide) (fun _ => ?_) (fun z => absurd (by rw [hb.2.1 k0]; exact zcmp0 (hx k0)) z)
    refine z_goto C1 dL_law_1793 (tgt := 3262) (by decide) ?_
    exact t_drop [true, true, true, true, true, false, false, false] rfl (zG_y x (hK x s2 hb.2.2))
set_option maxHeartbeats 4000000 in
set_option maxRecDepth 100000 in
theorem law_23 {Z : zZ} {p : Program} {l : Launch} {e : Env} {s : State} {m : MethodId} {args : Array Value} {below : List Frame} {meth : Method} {c : Code} {ad0 : Nat → Nat} {h0 : zH} {Q : State → Prop} {L : Nat} {xs : Nat → Int32} {st : zTs} {i : Int32} {cells slots : Nat} {a1 : Int32} {a2 : Int32} {a3 : Int32} (hfl : l.stackTraces = false) (C : zC Z p s m args meth c cL_law 8 RL) (X : zSx Z s L xs) (h : qR st) (x1 : vp_in (i + 1) L ∧ xs (i + 1).toNatClampNeg = a1) (x2 : vp_in (i + 2) L ∧ xs (i + 2).toNatClampNeg = a2) (x3 : vp_in (i + 3) L ∧ xs (i + 3).toNatClampNeg = a3) (hc : cells + 30 ≤ room_1.cells) (hs : slots + 8828 ≤ room_1.slots) (hK : ∀ x st1, qR st1 → zG Z ad0 h0 p l e room_1 s m args below meth c Q (cells + 30) (slots + 8828) (zh (zZx Z x) zm1 st1) 8 3262 [some (.ref 208), some (.ref 10), some (.ref 100), some (.ref 9), some (.int i), none, none, none] []) : zG Z ad0 h0 p l e room_1 s m args below meth c Q cells slots (zh Z zm1 st) 8 1796 [some (.ref 208), some (.ref 10), some (.ref 100), some (.ref 9), some (.int i), none, none, none] [] := by
  refine z_aload_n C dL_law_1796 (i := 1) rfl rfl ?_
  refine z_aload_n C dL_law_1797 (i := 0) rfl rfl ?_
  refine z_iload C dL_law_1798 (i := 4) rfl ?_
  refine z_iconst C dL_law_1800 (v := 1) (by decide) ?_
  refine z_iadd C dL_law_1801 ?_
  refine t_sld C X dL_law_1802 x1.1 ?_
  rw [x1.2]
  refine z_aload_n C dL_law_1803 (i := 0) rfl rfl ?_
  refine z_iload C dL_law_1804 (i := 4) rfl ?_
  refine z_iconst C dL_law_1806 (v := 2) (by decide) ?_
  refine z_iadd C dL_law_1807 ?_
  refine t_sld C X dL_law_1808 x2.1 ?_
  rw [x2.2]
  refine z_aload_n C dL_law_1809 (i := 0) rfl rfl ?_
  refine z_iload C dL_law_1810 (i := 4) rfl ?_
  refine z_iconst C dL_law_1812 (v := 3) (by decide) ?_
  refine z_iadd C dL_law_1813 ?_
  refine t_sld C X dL_law_1814 x3.1 ?_
  rw [x3.2]
  refine z_aload_n C dL_law_1815 (i := 3) rfl rfl ?_
  refine t_callSO C (rest := []) (c2 := cells + 30) (s2 := slots + 8828) [.ref 10, .int a1, .int a2, .int a3, .ref 9] dL_law_1816 lw_L_lower (c_L_lower hfl (P1 := fun kc x s9 => ∃ r : Int32, (kc = 0 → x = zjn r.toInt64) ∧ w_X12_lower s9 a1 a2 a3 (zOK kc r)) (b_lower h) (fun k9 s9 hx => by rcases hx with ⟨rfl, hx⟩ | ⟨rfl, hx⟩ <;> first | exact Or.inl ⟨rfl, fun _ => ⟨0, fun z => absurd z (by decide), hx⟩⟩ | exact Or.inr (⟨rfl, fun _ => ⟨0, fun z => absurd z (by decide), hx⟩⟩)) (fun r s9 hp => ⟨r, fun _ => rfl, hp⟩)) rfl rfl ⟨Nat.le_of_ble_eq_true rfl, Nat.le_of_ble_eq_true rfl⟩ (Nat.le_of_ble_eq_true rfl) ⟨Nat.add_le_add_left (Nat.le_of_ble_eq_true rfl) _, Nat.add_le_add_left (Nat.le_of_ble_eq_true rfl) _, hc, hs⟩ (k_Wx fun kc x s9 hp => ?_)
  obtain ⟨r, hx, hw⟩ := hp
  have C1 := zC_x C x
  have X1 : zSx (zZx Z x) s L xs := X
  refine z_istore C1 dL_law_1819 (lc' := [some (.ref 208), some (.ref 10), some (.ref 100), some (.ref 9), some (.int i), some (.int kc), none, none]) (by decide) rfl ?_
  refine z_aload_n C1 dL_law_1821 (i := 2) rfl rfl ?_
  refine z_aload_n C1 dL_law_1822 (i := 0) rfl rfl ?_
  refine z_iload C1 dL_law_1823 (i := 4) rfl ?_
  refine z_iconst C1 dL_law_1825 (v := 1) (by decide) ?_
  refine z_iadd C1 dL_law_1826 ?_
  refine t_sld C1 X1 dL_law_1827 x1.1 ?_
  rw [x1.2]
  refine z_aload_n C1 dL_law_1828 (i := 0) rfl rfl ?_
  refine z_iload C1 dL_law_1829 (i := 4) rfl ?_
  refine z_iconst C1 dL_law_1831 (v := 2) (by decide) ?_
  refine z_iadd C1 dL_law_1832 ?_
  refine t_sld C1 X1 dL_law_1833 x2.1 ?_
  rw [x2.2]
  refine z_aload_n C1 dL_law_1834 (i := 0) rfl rfl ?_
  refine z_iload C1 dL_law_1835 (i := 4) rfl ?_
  refine z_iconst C1 dL_law_1837 (v := 3) (by decide) ?_
  refine z_iadd C1 dL_law_1838 ?_
  refine t_sld C1 X1 dL_law_1839 x3.1 ?_
  rw [x3.2]
  refine t_callV C1 (rest := []) (c2 := cells + 30) (s2 := slots + 8828) (kd := 100) (i := 0) [.int a1, .int a2, .int a3] dL_law_1840 lk_L_236 li_X12_lower le_X12_lower (c_X12_lower hfl hw) rfl rfl (by decide) rfl ⟨_, rfl⟩ rfl ⟨Nat.le_of_ble_eq_true rfl, Nat.le_of_ble_eq_true rfl⟩ (Nat.le_of_ble_eq_true rfl) ⟨Nat.le_refl _, Nat.le_refl _, hc, hs⟩ (k_Wi fun b s2 hb => ?_)
  refine z_istore C1 dL_law_1843 (lc' := [some (.ref 208), some (.ref 10), some (.ref 100), some (.ref 9), some (.int i), some (.int kc), some (.int b), none]) (by decide) rfl ?_
  refine z_aload_n C1 dL_law_1845 (i := 2) rfl rfl ?_
  refine t_callV C1 (rest := []) (c2 := cells + 30) (s2 := slots + 8828) (kd := 100) (i := 0) [] dL_law_1846 lk_L_156 li_X12_thrown le_X12_thrown (c_X12_thrown hfl (P := fun r => r = kc) hb.1) rfl rfl (by decide) rfl ⟨_, rfl⟩ rfl ⟨Nat.le_of_ble_eq_true rfl, Nat.le_of_ble_eq_true rfl⟩ (Nat.le_of_ble_eq_true rfl) ⟨Nat.le_refl _, Nat.le_refl _, hc, hs⟩ (k_Ri fun t ht => ?_)
  refine z_iload C1 dL_law_1849 (i := 5) rfl ?_
  refine z_icmp_eq C1 dL_law_1851 (tgt := 1856) (by decide) (fun _ => ?_) (fun z => absurd ht z)
  refine z_iload C1 dL_law_1856 (i := 5) rfl ?_
  refine z_if_ne C1 dL_law_1858 (tgt := 1873) (by decide) (fun _ => ?_) (fun k0 => ?_)
  · refine z_goto C1 dL_law_1873 (tgt := 3262) (by decide) ?_
    exact t_drop [true, true, true, true, true, false, false, false] rfl (zG_y x (hK x s2 hb.2.2))
  · refine z_aload_n C1 dL_law_1861 (i := 3) rfl rfl ?_
    refine z_iconst C1 dL_law_1862 (v := 0) (by decide) ?_
    refine t_jld C1 dL_law_1863 rfl ?_
    refine z_iload C1 dL_law_1864 (i := 6) rfl ?_
    refine z_i2l C1 dL_law_1866 ?_
    refine z_lcmp C1 dL_law_1867 ?_
    refine z_if_eq C1 dL_law_1868 (tgt := 1873) (by decide) (fun _ => ?_) (fun z => absurd (by rw [hb.2.1 k0]; exact zcmp0 (hx k0)) z)
    refine z_goto C1 dL_law_1873 (tgt := 3262) (by decide) ?_
    exact t_drop [true, true, true, true, true, false, false, false] rfl (zG_y x (hK x s2 hb.2.2))
set_option maxHeartbeats 4000000 in
set_option maxRecDepth 100000 in
theorem law_24 {Z : zZ} {p : Program} {l : Launch} {e : Env} {s : State} {m : MethodId} {args : Array Value} {below : List Frame} {meth : Method} {c : Code} {ad0 : Nat → Nat} {h0 : zH} {Q : State → Prop} {L : Nat} {xs : Nat → Int32} {st : zTs} {i : Int32} {cells slots : Nat} {a1 : Int32} {a2 : Int32} {a3 : Int32} {a4 : Int32} {a5 : Int32} (hfl : l.stackTraces = false) (C : zC Z p s m args meth c cL_law 8 RL) (X : zSx Z s L xs) (h : qR st) (x1 : vp_in (i + 1) L ∧ xs (i + 1).toNatClampNeg = a1) (x2 : vp_in (i + 2) L ∧ xs (i + 2).toNatClampNeg = a2) (x3 : vp_in (i + 3) L ∧ xs (i + 3).toNatClampNeg = a3) (x4 : vp_in (i + 4) L ∧ xs (i + 4).toNatClampNeg = a4) (x5 : vp_in (i + 5) L ∧ xs (i + 5).toNatClampNeg = a5) (hc : cells + 30 ≤ room_1.cells) (hs : slots + 8828 ≤ room_1.slots) (hK : ∀ x st1, qR st1 → zG Z ad0 h0 p l e room_1 s m args below meth c Q (cells + 30) (slots + 8828) (zh (zZx Z x) zm1 st1) 8 3262 [some (.ref 208), some (.ref 10), some (.ref 100), some (.ref 9), some (.int i), none, none, none] []) : zG Z ad0 h0 p l e room_1 s m args below meth c Q cells slots (zh Z zm1 st) 8 1876 [some (.ref 208), some (.ref 10), some (.ref 100), some (.ref 9), some (.int i), none, none, none] [] := by
  refine z_aload_n C dL_law_1876 (i := 1) rfl rfl ?_
  refine z_aload_n C dL_law_1877 (i := 0) rfl rfl ?_
  refine z_iload C dL_law_1878 (i := 4) rfl ?_
  refine z_iconst C dL_law_1880 (v := 1) (by decide) ?_
  refine z_iadd C dL_law_1881 ?_
  refine t_sld C X dL_law_1882 x1.1 ?_
  rw [x1.2]
  refine z_aload_n C dL_law_1883 (i := 0) rfl rfl ?_
  refine z_iload C dL_law_1884 (i := 4) rfl ?_
  refine z_iconst C dL_law_1886 (v := 2) (by decide) ?_
  refine z_iadd C dL_law_1887 ?_
  refine t_sld C X dL_law_1888 x2.1 ?_
  rw [x2.2]
  refine z_aload_n C dL_law_1889 (i := 0) rfl rfl ?_
  refine z_iload C dL_law_1890 (i := 4) rfl ?_
  refine z_iconst C dL_law_1892 (v := 3) (by decide) ?_
  refine z_iadd C dL_law_1893 ?_
  refine t_sld C X dL_law_1894 x3.1 ?_
  rw [x3.2]
  refine z_aload_n C dL_law_1895 (i := 0) rfl rfl ?_
  refine z_iload C dL_law_1896 (i := 4) rfl ?_
  refine z_iconst C dL_law_1898 (v := 4) (by decide) ?_
  refine z_iadd C dL_law_1899 ?_
  refine t_sld C X dL_law_1900 x4.1 ?_
  rw [x4.2]
  refine z_aload_n C dL_law_1901 (i := 0) rfl rfl ?_
  refine z_iload C dL_law_1902 (i := 4) rfl ?_
  refine z_iconst C dL_law_1904 (v := 5) (by decide) ?_
  refine z_iadd C dL_law_1905 ?_
  refine t_sld C X dL_law_1906 x5.1 ?_
  rw [x5.2]
  refine z_aload_n C dL_law_1907 (i := 3) rfl rfl ?_
  refine t_callSO C (rest := []) (c2 := cells + 30) (s2 := slots + 8828) [.ref 10, .int a1, .int a2, .int a3, .int a4, .int a5, .ref 9] dL_law_1908 lw_L_use (c_L_use hfl (P1 := fun kc x s9 => ∃ r : Int32, (kc = 0 → x = zjn r.toInt64) ∧ w_X12_use s9 a1 a2 a3 a4 a5 (zOK kc r)) (b_use h) (fun k9 s9 hx => by rcases hx with ⟨rfl, hx⟩ | ⟨rfl, hx⟩ <;> first | exact Or.inl ⟨rfl, fun _ => ⟨0, fun z => absurd z (by decide), hx⟩⟩ | exact Or.inr (⟨rfl, fun _ => ⟨0, fun z => absurd z (by decide), hx⟩⟩)) (fun r s9 hp => ⟨r, fun _ => rfl, hp⟩)) rfl rfl ⟨Nat.le_of_ble_eq_true rfl, Nat.le_of_ble_eq_true rfl⟩ (Nat.le_of_ble_eq_true rfl) ⟨Nat.add_le_add_left (Nat.le_of_ble_eq_true rfl) _, Nat.add_le_add_left (Nat.le_of_ble_eq_true rfl) _, hc, hs⟩ (k_Wx fun kc x s9 hp => ?_)
  obtain ⟨r, hx, hw⟩ := hp
  have C1 := zC_x C x
  have X1 : zSx (zZx Z x) s L xs := X
  refine z_istore C1 dL_law_1911 (lc' := [some (.ref 208), some (.ref 10), some (.ref 100), some (.ref 9), some (.int i), some (.int kc), none, none]) (by decide) rfl ?_
  refine z_aload_n C1 dL_law_1913 (i := 2) rfl rfl ?_
  refine z_aload_n C1 dL_law_1914 (i := 0) rfl rfl ?_
  refine z_iload C1 dL_law_1915 (i := 4) rfl ?_
  refine z_iconst C1 dL_law_1917 (v := 1) (by decide) ?_
  refine z_iadd C1 dL_law_1918 ?_
  refine t_sld C1 X1 dL_law_1919 x1.1 ?_
  rw [x1.2]
  refine z_aload_n C1 dL_law_1920 (i := 0) rfl rfl ?_
  refine z_iload C1 dL_law_1921 (i := 4) rfl ?_
  refine z_iconst C1 dL_law_1923 (v := 2) (by decide) ?_
  refine z_iadd C1 dL_law_1924 ?_
  refine t_sld C1 X1 dL_law_1925 x2.1 ?_
  rw [x2.2]
  refine z_aload_n C1 dL_law_1926 (i := 0) rfl rfl ?_
  refine z_iload C1 dL_law_1927 (i := 4) rfl ?_
  refine z_iconst C1 dL_law_1929 (v := 3) (by decide) ?_
  refine z_iadd C1 dL_law_1930 ?_
  refine t_sld C1 X1 dL_law_1931 x3.1 ?_
  rw [x3.2]
  refine z_aload_n C1 dL_law_1932 (i := 0) rfl rfl ?_
  refine z_iload C1 dL_law_1933 (i := 4) rfl ?_
  refine z_iconst C1 dL_law_1935 (v := 4) (by decide) ?_
  refine z_iadd C1 dL_law_1936 ?_
  refine t_sld C1 X1 dL_law_1937 x4.1 ?_
  rw [x4.2]
  refine z_aload_n C1 dL_law_1938 (i := 0) rfl rfl ?_
  refine z_iload C1 dL_law_1939 (i := 4) rfl ?_
  refine z_iconst C1 dL_law_1941 (v := 5) (by decide) ?_
  refine z_iadd C1 dL_law_1942 ?_
  refine t_sld C1 X1 dL_law_1943 x5.1 ?_
  rw [x5.2]
  refine t_callV C1 (rest := []) (c2 := cells + 30) (s2 := slots + 8828) (kd := 100) (i := 0) [.int a1, .int a2, .int a3, .int a4, .int a5] dL_law_1944 lk_L_239 li_X12_use le_X12_use (c_X12_use hfl hw) rfl rfl (by decide) rfl ⟨_, rfl⟩ rfl ⟨Nat.le_of_ble_eq_true rfl, Nat.le_of_ble_eq_true rfl⟩ (Nat.le_of_ble_eq_true rfl) ⟨Nat.le_refl _, Nat.le_refl _, hc, hs⟩ (k_Wi fun b s2 hb => ?_)
  refine z_istore C1 dL_law_1947 (lc' := [some (.ref 208), some (.ref 10), some (.ref 100), some (.ref 9), some (.int i), some (.int kc), some (.int b), none]) (by decide) rfl ?_
  refine z_aload_n C1 dL_law_1949 (i := 2) rfl rfl ?_
  refine t_callV C1 (rest := []) (c2 := cells + 30) (s2 := slots + 8828) (kd := 100) (i := 0) [] dL_law_1950 lk_L_156 li_X12_thrown le_X12_thrown (c_X12_thrown hfl (P := fun r => r = kc) hb.1) rfl rfl (by decide) rfl ⟨_, rfl⟩ rfl ⟨Nat.le_of_ble_eq_true rfl, Nat.le_of_ble_eq_true rfl⟩ (Nat.le_of_ble_eq_true rfl) ⟨Nat.le_refl _, Nat.le_refl _, hc, hs⟩ (k_Ri fun t ht => ?_)
  refine z_iload C1 dL_law_1953 (i := 5) rfl ?_
  refine z_icmp_eq C1 dL_law_1955 (tgt := 1960) (by decide) (fun _ => ?_) (fun z => absurd ht z)
  refine z_iload C1 dL_law_1960 (i := 5) rfl ?_
  refine z_if_ne C1 dL_law_1962 (tgt := 1977) (by decide) (fun _ => ?_) (fun k0 => ?_)
  · refine z_goto C1 dL_law_1977 (tgt := 3262) (by decide) ?_
    exact t_drop [true, true, true, true, true, false, false, false] rfl (zG_y x (hK x s2 hb.2.2))
  · refine z_aload_n C1 dL_law_1965 (i := 3) rfl rfl ?_
    refine z_iconst C1 dL_law_1966 (v := 0) (by decide) ?_
    refine t_jld C1 dL_law_1967 rfl ?_
    refine z_iload C1 dL_law_1968 (i := 6) rfl ?_
    refine z_i2l C1 dL_law_1970 ?_
    refine z_lcmp C1 dL_law_1971 ?_
    refine z_if_eq C1 dL_law_1972 (tgt := 1977) (by decide) (fun _ => ?_) (fun z => absurd (by rw [hb.2.1 k0]; exact zcmp0 (hx k0)) z)
    refine z_goto C1 dL_law_1977 (tgt := 3262) (by decide) ?_
    exact t_drop [true, true, true, true, true, false, false, false] rfl (zG_y x (hK x s2 hb.2.2))
set_option maxHeartbeats 4000000 in
set_option maxRecDepth 100000 in
theorem law_25 {Z : zZ} {p : Program} {l : Launch} {e : Env} {s : State} {m : MethodId} {args : Array Value} {below : List Frame} {meth : Method} {c : Code} {ad0 : Nat → Nat} {h0 : zH} {Q : State → Prop} {L : Nat} {xs : Nat → Int32} {st : zTs} {i : Int32} {cells slots : Nat} {a1 : Int32} {a2 : Int32} {a3 : Int32} {a4 : Int32} (hfl : l.stackTraces = false) (C : zC Z p s m args meth c cL_law 8 RL) (X : zSx Z s L xs) (h : qR st) (x1 : vp_in (i + 1) L ∧ xs (i + 1).toNatClampNeg = a1) (x2 : vp_in (i + 2) L ∧ xs (i + 2).toNatClampNeg = a2) (x3 : vp_in (i + 3) L ∧ xs (i + 3).toNatClampNeg = a3) (x4 : vp_in (i + 4) L ∧ xs (i + 4).toNatClampNeg = a4) (hc : cells + 30 ≤ room_1.cells) (hs : slots + 8828 ≤ room_1.slots) (hK : ∀ x st1, qR st1 → zG Z ad0 h0 p l e room_1 s m args below meth c Q (cells + 30) (slots + 8828) (zh (zZx Z x) zm1 st1) 8 3262 [some (.ref 208), some (.ref 10), some (.ref 100), some (.ref 9), some (.int i), none, none, none] []) : zG Z ad0 h0 p l e room_1 s m args below meth c Q cells slots (zh Z zm1 st) 8 1980 [some (.ref 208), some (.ref 10), some (.ref 100), some (.ref 9), some (.int i), none, none, none] [] := by
  refine z_aload_n C dL_law_1980 (i := 1) rfl rfl ?_
  refine z_aload_n C dL_law_1981 (i := 0) rfl rfl ?_
  refine z_iload C dL_law_1982 (i := 4) rfl ?_
  refine z_iconst C dL_law_1984 (v := 1) (by decide) ?_
  refine z_iadd C dL_law_1985 ?_
  refine t_sld C X dL_law_1986 x1.1 ?_
  rw [x1.2]
  refine z_aload_n C dL_law_1987 (i := 0) rfl rfl ?_
  refine z_iload C dL_law_1988 (i := 4) rfl ?_
  refine z_iconst C dL_law_1990 (v := 2) (by decide) ?_
  refine z_iadd C dL_law_1991 ?_
  refine t_sld C X dL_law_1992 x2.1 ?_
  rw [x2.2]
  refine z_aload_n C dL_law_1993 (i := 0) rfl rfl ?_
  refine z_iload C dL_law_1994 (i := 4) rfl ?_
  refine z_iconst C dL_law_1996 (v := 3) (by decide) ?_
  refine z_iadd C dL_law_1997 ?_
  refine t_sld C X dL_law_1998 x3.1 ?_
  rw [x3.2]
  refine z_aload_n C dL_law_1999 (i := 0) rfl rfl ?_
  refine z_iload C dL_law_2000 (i := 4) rfl ?_
  refine z_iconst C dL_law_2002 (v := 4) (by decide) ?_
  refine z_iadd C dL_law_2003 ?_
  refine t_sld C X dL_law_2004 x4.1 ?_
  rw [x4.2]
  refine z_aload_n C dL_law_2005 (i := 3) rfl rfl ?_
  refine t_callSO C (rest := []) (c2 := cells + 30) (s2 := slots + 8828) [.ref 10, .int a1, .int a2, .int a3, .int a4, .ref 9] dL_law_2006 lw_L_cell (c_L_cell hfl (P1 := fun kc x s9 => ∃ r : Int32, (kc = 0 → x = zjn r.toInt64) ∧ w_X12_cell s9 a1 a2 a3 a4 (zOK kc r)) (b_cell h) (fun k9 hx => by rcases hx with ⟨rfl, hx⟩ | ⟨rfl, hx⟩ <;> first | exact Or.inl ⟨rfl, fun _ => ⟨0, fun z => absurd z (by decide), hx⟩⟩ | exact Or.inr (⟨rfl, fun _ => ⟨0, fun z => absurd z (by decide), hx⟩⟩)) (fun r hp => ⟨r, fun _ => rfl, hp⟩)) rfl rfl ⟨Nat.le_of_ble_eq_true rfl, Nat.le_of_ble_eq_true rfl⟩ (Nat.le_of_ble_eq_true rfl) ⟨Nat.add_le_add_left (Nat.le_of_ble_eq_true rfl) _, Nat.add_le_add_left (Nat.le_of_ble_eq_true rfl) _, hc, hs⟩ (k_Wx fun kc x s9 hp => ?_)
  obtain ⟨r, hx, hw⟩ := hp
  have C1 := zC_x C x
  have X1 : zSx (zZx Z x) s L xs := X
  refine z_istore C1 dL_law_2009 (lc' := [some (.ref 208), some (.ref 10), some (.ref 100), some (.ref 9), some (.int i), some (.int kc), none, none]) (by decide) rfl ?_
  refine z_aload_n C1 dL_law_2011 (i := 2) rfl rfl ?_
  refine z_aload_n C1 dL_law_2012 (i := 0) rfl rfl ?_
  refine z_iload C1 dL_law_2013 (i := 4) rfl ?_
  refine z_iconst C1 dL_law_2015 (v := 1) (by decide) ?_
  refine z_iadd C1 dL_law_2016 ?_
  refine t_sld C1 X1 dL_law_2017 x1.1 ?_
  rw [x1.2]
  refine z_aload_n C1 dL_law_2018 (i := 0) rfl rfl ?_
  refine z_iload C1 dL_law_2019 (i := 4) rfl ?_
  refine z_iconst C1 dL_law_2021 (v := 2) (by decide) ?_
  refine z_iadd C1 dL_law_2022 ?_
  refine t_sld C1 X1 dL_law_2023 x2.1 ?_
  rw [x2.2]
  refine z_aload_n C1 dL_law_2024 (i := 0) rfl rfl ?_
  refine z_iload C1 dL_law_2025 (i := 4) rfl ?_
  refine z_iconst C1 dL_law_2027 (v := 3) (by decide) ?_
  refine z_iadd C1 dL_law_2028 ?_
  refine t_sld C1 X1 dL_law_2029 x3.1 ?_
  rw [x3.2]
  refine z_aload_n C1 dL_law_2030 (i := 0) rfl rfl ?_
  refine z_iload C1 dL_law_2031 (i := 4) rfl ?_
  refine z_iconst C1 dL_law_2033 (v := 4) (by decide) ?_
  refine z_iadd C1 dL_law_2034 ?_
  refine t_sld C1 X1 dL_law_2035 x4.1 ?_
  rw [x4.2]
  refine t_callV C1 (rest := []) (c2 := cells + 30) (s2 := slots + 8828) (kd := 100) (i := 0) [.int a1, .int a2, .int a3, .int a4] dL_law_2036 lk_L_242 li_X12_cell le_X12_cell (c_X12_cell hfl hw) rfl rfl (by decide) rfl ⟨_, rfl⟩ rfl ⟨Nat.le_of_ble_eq_true rfl, Nat.le_of_ble_eq_true rfl⟩ (Nat.le_of_ble_eq_true rfl) ⟨Nat.le_refl _, Nat.le_refl _, hc, hs⟩ (k_Wi fun b s2 hb => ?_)
  refine z_istore C1 dL_law_2039 (lc' := [some (.ref 208), some (.ref 10), some (.ref 100), some (.ref 9), some (.int i), some (.int kc), some (.int b), none]) (by decide) rfl ?_
  refine z_aload_n C1 dL_law_2041 (i := 2) rfl rfl ?_
  refine t_callV C1 (rest := []) (c2 := cells + 30) (s2 := slots + 8828) (kd := 100) (i := 0) [] dL_law_2042 lk_L_156 li_X12_thrown le_X12_thrown (c_X12_thrown hfl (P := fun r => r = kc) hb.1) rfl rfl (by decide) rfl ⟨_, rfl⟩ rfl ⟨Nat.le_of_ble_eq_true rfl, Nat.le_of_ble_eq_true rfl⟩ (Nat.le_of_ble_eq_true rfl) ⟨Nat.le_refl _, Nat.le_refl _, hc, hs⟩ (k_Ri fun t ht => ?_)
  refine z_iload C1 dL_law_2045 (i := 5) rfl ?_
  refine z_icmp_eq C1 dL_law_2047 (tgt := 2052) (by decide) (fun _ => ?_) (fun z => absurd ht z)
  refine z_iload C1 dL_law_2052 (i := 5) rfl ?_
  refine z_if_ne C1 dL_law_2054 (tgt := 2069) (by decide) (fun _ => ?_) (fun k0 => ?_)
  · refine z_goto C1 dL_law_2069 (tgt := 3262) (by decide) ?_
    exact t_drop [true, true, true, true, true, false, false, false] rfl (zG_y x (hK x s2 hb.2.2))
  · refine z_aload_n C1 dL_law_2057 (i := 3) rfl rfl ?_
    refine z_iconst C1 dL_law_2058 (v := 0) (by decide) ?_
    refine t_jld C1 dL_law_2059 rfl ?_
    refine z_iload C1 dL_law_2060 (i := 6) rfl ?_
    refine z_i2l C1 dL_law_2062 ?_
    refine z_lcmp C1 dL_law_2063 ?_
    refine z_if_eq C1 dL_law_2064 (tgt := 2069) (by decide) (fun _ => ?_) (fun z => absurd (by rw [hb.2.1 k0]; exact zcmp0 (hx k0)) z)
    refine z_goto C1 dL_law_2069 (tgt := 3262) (by decide) ?_
    exact t_drop [true, true, true, true, true, false, false, false] rfl (zG_y x (hK x s2 hb.2.2))
set_option maxHeartbeats 4000000 in
set_option maxRecDepth 100000 in
theorem law_26 {Z : zZ} {p : Program} {l : Launch} {e : Env} {s : State} {m : MethodId} {args : Array Value} {below : List Frame} {meth : Method} {c : Code} {ad0 : Nat → Nat} {h0 : zH} {Q : State → Prop} {L : Nat} {xs : Nat → Int32} {st : zTs} {i : Int32} {cells slots : Nat} {a1 : Int32} {a2 : Int32} (hfl : l.stackTraces = false) (C : zC Z p s m args meth c cL_law 8 RL) (X : zSx Z s L xs) (h : qR st) (x1 : vp_in (i + 1) L ∧ xs (i + 1).toNatClampNeg = a1) (x2 : vp_in (i + 2) L ∧ xs (i + 2).toNatClampNeg = a2) (hc : cells + 30 ≤ room_1.cells) (hs : slots + 8828 ≤ room_1.slots) (hK : ∀ x st1, qR st1 → zG Z ad0 h0 p l e room_1 s m args below meth c Q (cells + 30) (slots + 8828) (zh (zZx Z x) zm1 st1) 8 3262 [some (.ref 208), some (.ref 10), some (.ref 100), some (.ref 9), some (.int i), none, none, none] []) : zG Z ad0 h0 p l e room_1 s m args below meth c Q cells slots (zh Z zm1 st) 8 2072 [some (.ref 208), some (.ref 10), some (.ref 100), some (.ref 9), some (.int i), none, none, none] [] := by
  refine z_aload_n C dL_law_2072 (i := 1) rfl rfl ?_
  refine z_aload_n C dL_law_2073 (i := 0) rfl rfl ?_
  refine z_iload C dL_law_2074 (i := 4) rfl ?_
  refine z_iconst C dL_law_2076 (v := 1) (by decide) ?_
  refine z_iadd C dL_law_2077 ?_
  refine t_sld C X dL_law_2078 x1.1 ?_
  rw [x1.2]
  refine z_aload_n C dL_law_2079 (i := 0) rfl rfl ?_
  refine z_iload C dL_law_2080 (i := 4) rfl ?_
  refine z_iconst C dL_law_2082 (v := 2) (by decide) ?_
  refine z_iadd C dL_law_2083 ?_
  refine t_sld C X dL_law_2084 x2.1 ?_
  rw [x2.2]
  refine z_aload_n C dL_law_2085 (i := 3) rfl rfl ?_
  refine t_callSO C (rest := []) (c2 := cells + 30) (s2 := slots + 8828) [.ref 10, .int a1, .int a2, .ref 9] dL_law_2086 lw_L_spend (c_L_spend hfl (P1 := fun kc x s9 => ∃ r : Int32, (kc = 0 → x = zjn r.toInt64) ∧ w_X12_spend s9 a1 a2 (zOK kc r)) (b_spend h) (fun k9 s9 hx => by rcases hx with ⟨rfl, hx⟩ | ⟨rfl, hx⟩ <;> first | exact Or.inl ⟨rfl, fun _ => ⟨0, fun z => absurd z (by decide), hx⟩⟩ | exact Or.inr (⟨rfl, fun _ => ⟨0, fun z => absurd z (by decide), hx⟩⟩)) (fun r s9 hp => ⟨r, fun _ => rfl, hp⟩)) rfl rfl ⟨Nat.le_of_ble_eq_true rfl, Nat.le_of_ble_eq_true rfl⟩ (Nat.le_of_ble_eq_true rfl) ⟨Nat.add_le_add_left (Nat.le_of_ble_eq_true rfl) _, Nat.add_le_add_left (Nat.le_of_ble_eq_true rfl) _, hc, hs⟩ (k_Wx fun kc x s9 hp => ?_)
  obtain ⟨r, hx, hw⟩ := hp
  have C1 := zC_x C x
  have X1 : zSx (zZx Z x) s L xs := X
  refine z_istore C1 dL_law_2089 (lc' := [some (.ref 208), some (.ref 10), some (.ref 100), some (.ref 9), some (.int i), some (.int kc), none, none]) (by decide) rfl ?_
  refine z_aload_n C1 dL_law_2091 (i := 2) rfl rfl ?_
  refine z_aload_n C1 dL_law_2092 (i := 0) rfl rfl ?_
  refine z_iload C1 dL_law_2093 (i := 4) rfl ?_
  refine z_iconst C1 dL_law_2095 (v := 1) (by decide) ?_
  refine z_iadd C1 dL_law_2096 ?_
  refine t_sld C1 X1 dL_law_2097 x1.1 ?_
  rw [x1.2]
  refine z_aload_n C1 dL_law_2098 (i := 0) rfl rfl ?_
  refine z_iload C1 dL_law_2099 (i := 4) rfl ?_
  refine z_iconst C1 dL_law_2101 (v := 2) (by decide) ?_
  refine z_iadd C1 dL_law_2102 ?_
  refine t_sld C1 X1 dL_law_2103 x2.1 ?_
  rw [x2.2]
  refine t_callV C1 (rest := []) (c2 := cells + 30) (s2 := slots + 8828) (kd := 100) (i := 0) [.int a1, .int a2] dL_law_2104 lk_L_245 li_X12_spend le_X12_spend (c_X12_spend hfl hw) rfl rfl (by decide) rfl ⟨_, rfl⟩ rfl ⟨Nat.le_of_ble_eq_true rfl, Nat.le_of_ble_eq_true rfl⟩ (Nat.le_of_ble_eq_true rfl) ⟨Nat.le_refl _, Nat.le_refl _, hc, hs⟩ (k_Wi fun b s2 hb => ?_)
  refine z_istore C1 dL_law_2107 (lc' := [some (.ref 208), some (.ref 10), some (.ref 100), some (.ref 9), some (.int i), some (.int kc), some (.int b), none]) (by decide) rfl ?_
  refine z_aload_n C1 dL_law_2109 (i := 2) rfl rfl ?_
  refine t_callV C1 (rest := []) (c2 := cells + 30) (s2 := slots + 8828) (kd := 100) (i := 0) [] dL_law_2110 lk_L_156 li_X12_thrown le_X12_thrown (c_X12_thrown hfl (P := fun r => r = kc) hb.1) rfl rfl (by decide) rfl ⟨_, rfl⟩ rfl ⟨Nat.le_of_ble_eq_true rfl, Nat.le_of_ble_eq_true rfl⟩ (Nat.le_of_ble_eq_true rfl) ⟨Nat.le_refl _, Nat.le_refl _, hc, hs⟩ (k_Ri fun t ht => ?_)
  refine z_iload C1 dL_law_2113 (i := 5) rfl ?_
  refine z_icmp_eq C1 dL_law_2115 (tgt := 2120) (by decide) (fun _ => ?_) (fun z => absurd ht z)
  refine z_iload C1 dL_law_2120 (i := 5) rfl ?_
  refine z_if_ne C1 dL_law_2122 (tgt := 2137) (by decide) (fun _ => ?_) (fun k0 => ?_)
  · refine z_goto C1 dL_law_2137 (tgt := 3262) (by decide) ?_
    exact t_drop [true, true, true, true, true, false, false, false] rfl (zG_y x (hK x s2 hb.2.2))
  · refine z_aload_n C1 dL_law_2125 (i := 3) rfl rfl ?_
    refine z_iconst C1 dL_law_2126 (v := 0) (by decide) ?_
    refine t_jld C1 dL_law_2127 rfl ?_
    refine z_iload C1 dL_law_2128 (i := 6) rfl ?_
    refine z_i2l C1 dL_law_2130 ?_
    refine z_lcmp C1 dL_law_2131 ?_
    refine z_if_eq C1 dL_law_2132 (tgt := 2137) (by decide) (fun _ => ?_) (fun z => absurd (by rw [hb.2.1 k0]; exact zcmp0 (hx k0)) z)
    refine z_goto C1 dL_law_2137 (tgt := 3262) (by decide) ?_
    exact t_drop [true, true, true, true, true, false, false, false] rfl (zG_y x (hK x s2 hb.2.2))
set_option maxHeartbeats 4000000 in
set_option maxRecDepth 100000 in
theorem law_27 {Z : zZ} {p : Program} {l : Launch} {e : Env} {s : State} {m : MethodId} {args : Array Value} {below : List Frame} {meth : Method} {c : Code} {ad0 : Nat → Nat} {h0 : zH} {Q : State → Prop} {L : Nat} {xs : Nat → Int32} {st : zTs} {i : Int32} {cells slots : Nat} {a1 : Int32} {a2 : Int32} (hfl : l.stackTraces = false) (C : zC Z p s m args meth c cL_law 8 RL) (X : zSx Z s L xs) (h : qR st) (x1 : vp_in (i + 1) L ∧ xs (i + 1).toNatClampNeg = a1) (x2 : vp_in (i + 2) L ∧ xs (i + 2).toNatClampNeg = a2) (hc : cells + 30 ≤ room_1.cells) (hs : slots + 8828 ≤ room_1.slots) (hK : ∀ x st1, qR st1 → zG Z ad0 h0 p l e room_1 s m args below meth c Q (cells + 30) (slots + 8828) (zh (zZx Z x) zm1 st1) 8 3262 [some (.ref 208), some (.ref 10), some (.ref 100), some (.ref 9), some (.int i), none, none, none] []) : zG Z ad0 h0 p l e room_1 s m args below meth c Q cells slots (zh Z zm1 st) 8 2140 [some (.ref 208), some (.ref 10), some (.ref 100), some (.ref 9), some (.int i), none, none, none] [] := by
  refine z_aload_n C dL_law_2140 (i := 1) rfl rfl ?_
  refine z_aload_n C dL_law_2141 (i := 0) rfl rfl ?_
  refine z_iload C dL_law_2142 (i := 4) rfl ?_
  refine z_iconst C dL_law_2144 (v := 1) (by decide) ?_
  refine z_iadd C dL_law_2145 ?_
  refine t_sld C X dL_law_2146 x1.1 ?_
  rw [x1.2]
  refine z_aload_n C dL_law_2147 (i := 0) rfl rfl ?_
  refine z_iload C dL_law_2148 (i := 4) rfl ?_
  refine z_iconst C dL_law_2150 (v := 2) (by decide) ?_
  refine z_iadd C dL_law_2151 ?_
  refine t_sld C X dL_law_2152 x2.1 ?_
  rw [x2.2]
  refine z_aload_n C dL_law_2153 (i := 3) rfl rfl ?_
  refine t_callSO C (rest := []) (c2 := cells + 30) (s2 := slots + 8828) [.ref 10, .int a1, .int a2, .ref 9] dL_law_2154 lw_L_secure (c_L_secure hfl (P1 := fun kc x s9 => ∃ r : Int32, (kc = 0 → x = zjn r.toInt64) ∧ w_X12_secure s9 a1 a2 (zOK kc r)) (b_secure h) (fun k9 s9 hx => by rcases hx with ⟨rfl, hx⟩ | ⟨rfl, hx⟩ <;> first | exact Or.inl ⟨rfl, fun _ => ⟨0, fun z => absurd z (by decide), hx⟩⟩ | exact Or.inr (⟨rfl, fun _ => ⟨0, fun z => absurd z (by decide), hx⟩⟩)) (fun r s9 hp => ⟨r, fun _ => rfl, hp⟩)) rfl rfl ⟨Nat.le_of_ble_eq_true rfl, Nat.le_of_ble_eq_true rfl⟩ (Nat.le_of_ble_eq_true rfl) ⟨Nat.add_le_add_left (Nat.le_of_ble_eq_true rfl) _, Nat.add_le_add_left (Nat.le_of_ble_eq_true rfl) _, hc, hs⟩ (k_Wx fun kc x s9 hp => ?_)
  obtain ⟨r, hx, hw⟩ := hp
  have C1 := zC_x C x
  have X1 : zSx (zZx Z x) s L xs := X
  refine z_istore C1 dL_law_2157 (lc' := [some (.ref 208), some (.ref 10), some (.ref 100), some (.ref 9), some (.int i), some (.int kc), none, none]) (by decide) rfl ?_
  refine z_aload_n C1 dL_law_2159 (i := 2) rfl rfl ?_
  refine z_aload_n C1 dL_law_2160 (i := 0) rfl rfl ?_
  refine z_iload C1 dL_law_2161 (i := 4) rfl ?_
  refine z_iconst C1 dL_law_2163 (v := 1) (by decide) ?_
  refine z_iadd C1 dL_law_2164 ?_
  refine t_sld C1 X1 dL_law_2165 x1.1 ?_
  rw [x1.2]
  refine z_aload_n C1 dL_law_2166 (i := 0) rfl rfl ?_
  refine z_iload C1 dL_law_2167 (i := 4) rfl ?_
  refine z_iconst C1 dL_law_2169 (v := 2) (by decide) ?_
  refine z_iadd C1 dL_law_2170 ?_
  refine t_sld C1 X1 dL_law_2171 x2.1 ?_
  rw [x2.2]
  refine t_callV C1 (rest := []) (c2 := cells + 30) (s2 := slots + 8828) (kd := 100) (i := 0) [.int a1, .int a2] dL_law_2172 lk_L_248 li_X12_secure le_X12_secure (c_X12_secure hfl hw) rfl rfl (by decide) rfl ⟨_, rfl⟩ rfl ⟨Nat.le_of_ble_eq_true rfl, Nat.le_of_ble_eq_true rfl⟩ (Nat.le_of_ble_eq_true rfl) ⟨Nat.le_refl _, Nat.le_refl _, hc, hs⟩ (k_Wi fun b s2 hb => ?_)
  refine z_istore C1 dL_law_2175 (lc' := [some (.ref 208), some (.ref 10), some (.ref 100), some (.ref 9), some (.int i), some (.int kc), some (.int b), none]) (by decide) rfl ?_
  refine z_aload_n C1 dL_law_2177 (i := 2) rfl rfl ?_
  refine t_callV C1 (rest := []) (c2 := cells + 30) (s2 := slots + 8828) (kd := 100) (i := 0) [] dL_law_2178 lk_L_156 li_X12_thrown le_X12_thrown (c_X12_thrown hfl (P := fun r => r = kc) hb.1) rfl rfl (by decide) rfl ⟨_, rfl⟩ rfl ⟨Nat.le_of_ble_eq_true rfl, Nat.le_of_ble_eq_true rfl⟩ (Nat.le_of_ble_eq_true rfl) ⟨Nat.le_refl _, Nat.le_refl _, hc, hs⟩ (k_Ri fun t ht => ?_)
  refine z_iload C1 dL_law_2181 (i := 5) rfl ?_
  refine z_icmp_eq C1 dL_law_2183 (tgt := 2188) (by decide) (fun _ => ?_) (fun z => absurd ht z)
  refine z_iload C1 dL_law_2188 (i := 5) rfl ?_
  refine z_if_ne C1 dL_law_2190 (tgt := 2205) (by decide) (fun _ => ?_) (fun k0 => ?_)
  · refine z_goto C1 dL_law_2205 (tgt := 3262) (by decide) ?_
    exact t_drop [true, true, true, true, true, false, false, false] rfl (zG_y x (hK x s2 hb.2.2))
  · refine z_aload_n C1 dL_law_2193 (i := 3) rfl rfl ?_
    refine z_iconst C1 dL_law_2194 (v := 0) (by decide) ?_
    refine t_jld C1 dL_law_2195 rfl ?_
    refine z_iload C1 dL_law_2196 (i := 6) rfl ?_
    refine z_i2l C1 dL_law_2198 ?_
    refine z_lcmp C1 dL_law_2199 ?_
    refine z_if_eq C1 dL_law_2200 (tgt := 2205) (by decide) (fun _ => ?_) (fun z => absurd (by rw [hb.2.1 k0]; exact zcmp0 (hx k0)) z)
    refine z_goto C1 dL_law_2205 (tgt := 3262) (by decide) ?_
    exact t_drop [true, true, true, true, true, false, false, false] rfl (zG_y x (hK x s2 hb.2.2))
set_option maxHeartbeats 4000000 in
set_option maxRecDepth 100000 in
theorem law_28 {Z : zZ} {p : Program} {l : Launch} {e : Env} {s : State} {m : MethodId} {args : Array Value} {below : List Frame} {meth : Method} {c : Code} {ad0 : Nat → Nat} {h0 : zH} {Q : State → Prop} {L : Nat} {xs : Nat → Int32} {st : zTs} {i : Int32} {cells slots : Nat} {a1 : Int32} {a2 : Int32} (hfl : l.stackTraces = false) (C : zC Z p s m args meth c cL_law 8 RL) (X : zSx Z s L xs) (h : qR st) (x1 : vp_in (i + 1) L ∧ xs (i + 1).toNatClampNeg = a1) (x2 : vp_in (i + 2) L ∧ xs (i + 2).toNatClampNeg = a2) (hc : cells + 30 ≤ room_1.cells) (hs : slots + 8828 ≤ room_1.slots) (hK : ∀ x st1, qR st1 → zG Z ad0 h0 p l e room_1 s m args below meth c Q (cells + 30) (slots + 8828) (zh (zZx Z x) zm1 st1) 8 3262 [some (.ref 208), some (.ref 10), some (.ref 100), some (.ref 9), some (.int i), none, none, none] []) : zG Z ad0 h0 p l e room_1 s m args below meth c Q cells slots (zh Z zm1 st) 8 2208 [some (.ref 208), some (.ref 10), some (.ref 100), some (.ref 9), some (.int i), none, none, none] [] := by
  refine z_aload_n C dL_law_2208 (i := 1) rfl rfl ?_
  refine z_aload_n C dL_law_2209 (i := 0) rfl rfl ?_
  refine z_iload C dL_law_2210 (i := 4) rfl ?_
  refine z_iconst C dL_law_2212 (v := 1) (by decide) ?_
  refine z_iadd C dL_law_2213 ?_
  refine t_sld C X dL_law_2214 x1.1 ?_
  rw [x1.2]
  refine z_aload_n C dL_law_2215 (i := 0) rfl rfl ?_
  refine z_iload C dL_law_2216 (i := 4) rfl ?_
  refine z_iconst C dL_law_2218 (v := 2) (by decide) ?_
  refine z_iadd C dL_law_2219 ?_
  refine t_sld C X dL_law_2220 x2.1 ?_
  rw [x2.2]
  refine z_aload_n C dL_law_2221 (i := 3) rfl rfl ?_
  refine t_callSO C (rest := []) (c2 := cells + 30) (s2 := slots + 8828) [.ref 10, .int a1, .int a2, .ref 9] dL_law_2222 lw_L_settle (c_L_settle hfl (P1 := fun kc x s9 => ∃ r : Int32, (kc = 0 → x = zjn r.toInt64) ∧ w_X12_settle s9 a1 a2 (zOK kc r)) (b_settle h) (fun k9 s9 hx => by rcases hx with ⟨rfl, hx⟩ | ⟨rfl, hx⟩ <;> first | exact Or.inl ⟨rfl, fun _ => ⟨0, fun z => absurd z (by decide), hx⟩⟩ | exact Or.inr (⟨rfl, fun _ => ⟨0, fun z => absurd z (by decide), hx⟩⟩)) (fun r s9 hp => ⟨r, fun _ => rfl, hp⟩)) rfl rfl ⟨Nat.le_of_ble_eq_true rfl, Nat.le_of_ble_eq_true rfl⟩ (Nat.le_of_ble_eq_true rfl) ⟨Nat.add_le_add_left (Nat.le_of_ble_eq_true rfl) _, Nat.add_le_add_left (Nat.le_of_ble_eq_true rfl) _, hc, hs⟩ (k_Wx fun kc x s9 hp => ?_)
  obtain ⟨r, hx, hw⟩ := hp
  have C1 := zC_x C x
  have X1 : zSx (zZx Z x) s L xs := X
  refine z_istore C1 dL_law_2225 (lc' := [some (.ref 208), some (.ref 10), some (.ref 100), some (.ref 9), some (.int i), some (.int kc), none, none]) (by decide) rfl ?_
  refine z_aload_n C1 dL_law_2227 (i := 2) rfl rfl ?_
  refine z_aload_n C1 dL_law_2228 (i := 0) rfl rfl ?_
  refine z_iload C1 dL_law_2229 (i := 4) rfl ?_
  refine z_iconst C1 dL_law_2231 (v := 1) (by decide) ?_
  refine z_iadd C1 dL_law_2232 ?_
  refine t_sld C1 X1 dL_law_2233 x1.1 ?_
  rw [x1.2]
  refine z_aload_n C1 dL_law_2234 (i := 0) rfl rfl ?_
  refine z_iload C1 dL_law_2235 (i := 4) rfl ?_
  refine z_iconst C1 dL_law_2237 (v := 2) (by decide) ?_
  refine z_iadd C1 dL_law_2238 ?_
  refine t_sld C1 X1 dL_law_2239 x2.1 ?_
  rw [x2.2]
  refine t_callV C1 (rest := []) (c2 := cells + 30) (s2 := slots + 8828) (kd := 100) (i := 0) [.int a1, .int a2] dL_law_2240 lk_L_251 li_X12_settle le_X12_settle (c_X12_settle hfl hw) rfl rfl (by decide) rfl ⟨_, rfl⟩ rfl ⟨Nat.le_of_ble_eq_true rfl, Nat.le_of_ble_eq_true rfl⟩ (Nat.le_of_ble_eq_true rfl) ⟨Nat.le_refl _, Nat.le_refl _, hc, hs⟩ (k_Wi fun b s2 hb => ?_)
  refine z_istore C1 dL_law_2243 (lc' := [some (.ref 208), some (.ref 10), some (.ref 100), some (.ref 9), some (.int i), some (.int kc), some (.int b), none]) (by decide) rfl ?_
  refine z_aload_n C1 dL_law_2245 (i := 2) rfl rfl ?_
  refine t_callV C1 (rest := []) (c2 := cells + 30) (s2 := slots + 8828) (kd := 100) (i := 0) [] dL_law_2246 lk_L_156 li_X12_thrown le_X12_thrown (c_X12_thrown hfl (P := fun r => r = kc) hb.1) rfl rfl (by decide) rfl ⟨_, rfl⟩ rfl ⟨Nat.le_of_ble_eq_true rfl, Nat.le_of_ble_eq_true rfl⟩ (Nat.le_of_ble_eq_true rfl) ⟨Nat.le_refl _, Nat.le_refl _, hc, hs⟩ (k_Ri fun t ht => ?_)
  refine z_iload C1 dL_law_2249 (i := 5) rfl ?_
  refine z_icmp_eq C1 dL_law_2251 (tgt := 2256) (by decide) (fun _ => ?_) (fun z => absurd ht z)
  refine z_iload C1 dL_law_2256 (i := 5) rfl ?_
  refine z_if_ne C1 dL_law_2258 (tgt := 2273) (by decide) (fun _ => ?_) (fun k0 => ?_)
  · refine z_goto C1 dL_law_2273 (tgt := 3262) (by decide) ?_
    exact t_drop [true, true, true, true, true, false, false, false] rfl (zG_y x (hK x s2 hb.2.2))
  · refine z_aload_n C1 dL_law_2261 (i := 3) rfl rfl ?_
    refine z_iconst C1 dL_law_2262 (v := 0) (by decide) ?_
    refine t_jld C1 dL_law_2263 rfl ?_
    refine z_iload C1 dL_law_2264 (i := 6) rfl ?_
    refine z_i2l C1 dL_law_2266 ?_
    refine z_lcmp C1 dL_law_2267 ?_
    refine z_if_eq C1 dL_law_2268 (tgt := 2273) (by decide) (fun _ => ?_) (fun z => absurd (by rw [hb.2.1 k0]; exact zcmp0 (hx k0)) z)
    refine z_goto C1 dL_law_2273 (tgt := 3262) (by decide) ?_
    exact t_drop [true, true, true, true, true, false, false, false] rfl (zG_y x (hK x s2 hb.2.2))
set_option maxHeartbeats 4000000 in
set_option maxRecDepth 100000 in
theorem law_29 {Z : zZ} {p : Program} {l : Launch} {e : Env} {s : State} {m : MethodId} {args : Array Value} {below : List Frame} {meth : Method} {c : Code} {ad0 : Nat → Nat} {h0 : zH} {Q : State → Prop} {L : Nat} {xs : Nat → Int32} {st : zTs} {i : Int32} {cells slots : Nat} {a1 : Int32} {a2 : Int32} (hfl : l.stackTraces = false) (C : zC Z p s m args meth c cL_law 8 RL) (X : zSx Z s L xs) (h : qR st) (x1 : vp_in (i + 1) L ∧ xs (i + 1).toNatClampNeg = a1) (x2 : vp_in (i + 2) L ∧ xs (i + 2).toNatClampNeg = a2) (hc : cells + 30 ≤ room_1.cells) (hs : slots + 8828 ≤ room_1.slots) (hK : ∀ x st1, qR st1 → zG Z ad0 h0 p l e room_1 s m args below meth c Q (cells + 30) (slots + 8828) (zh (zZx Z x) zm1 st1) 8 3262 [some (.ref 208), some (.ref 10), some (.ref 100), some (.ref 9), some (.int i), none, none, none] []) : zG Z ad0 h0 p l e room_1 s m args below meth c Q cells slots (zh Z zm1 st) 8 2276 [some (.ref 208), some (.ref 10), some (.ref 100), some (.ref 9), some (.int i), none, none, none] [] := by
  refine z_aload_n C dL_law_2276 (i := 1) rfl rfl ?_
  refine z_aload_n C dL_law_2277 (i := 0) rfl rfl ?_
  refine z_iload C dL_law_2278 (i := 4) rfl ?_
  refine z_iconst C dL_law_2280 (v := 1) (by decide) ?_
  refine z_iadd C dL_law_2281 ?_
  refine t_sld C X dL_law_2282 x1.1 ?_
  rw [x1.2]
  refine z_aload_n C dL_law_2283 (i := 0) rfl rfl ?_
  refine z_iload C dL_law_2284 (i := 4) rfl ?_
  refine z_iconst C dL_law_2286 (v := 2) (by decide) ?_
  refine z_iadd C dL_law_2287 ?_
  refine t_sld C X dL_law_2288 x2.1 ?_
  rw [x2.2]
  refine z_aload_n C dL_law_2289 (i := 3) rfl rfl ?_
  refine t_callSO C (rest := []) (c2 := cells + 30) (s2 := slots + 8828) [.ref 10, .int a1, .int a2, .ref 9] dL_law_2290 lw_L_mend (c_L_mend hfl (P1 := fun kc x s9 => ∃ r : Int32, (kc = 0 → x = zjn r.toInt64) ∧ w_X12_mend s9 a1 a2 (zOK kc r)) (b_mend h) (fun k9 s9 hx => by rcases hx with ⟨rfl, hx⟩ | ⟨rfl, hx⟩ <;> first | exact Or.inl ⟨rfl, fun _ => ⟨0, fun z => absurd z (by decide), hx⟩⟩ | exact Or.inr (⟨rfl, fun _ => ⟨0, fun z => absurd z (by decide), hx⟩⟩)) (fun r s9 hp => ⟨r, fun _ => rfl, hp⟩)) rfl rfl ⟨Nat.le_of_ble_eq_true rfl, Nat.le_of_ble_eq_true rfl⟩ (Nat.le_of_ble_eq_true rfl) ⟨Nat.add_le_add_left (Nat.le_of_ble_eq_true rfl) _, Nat.add_le_add_left (Nat.le_of_ble_eq_true rfl) _, hc, hs⟩ (k_Wx fun kc x s9 hp => ?_)
  obtain ⟨r, hx, hw⟩ := hp
  have C1 := zC_x C x
  have X1 : zSx (zZx Z x) s L xs := X
  refine z_istore C1 dL_law_2293 (lc' := [some (.ref 208), some (.ref 10), some (.ref 100), some (.ref 9), some (.int i), some (.int kc), none, none]) (by decide) rfl ?_
  refine z_aload_n C1 dL_law_2295 (i := 2) rfl rfl ?_
  refine z_aload_n C1 dL_law_2296 (i := 0) rfl rfl ?_
  refine z_iload C1 dL_law_2297 (i := 4) rfl ?_
  refine z_iconst C1 dL_law_2299 (v := 1) (by decide) ?_
  refine z_iadd C1 dL_law_2300 ?_
  refine t_sld C1 X1 dL_law_2301 x1.1 ?_
  rw [x1.2]
  refine z_aload_n C1 dL_law_2302 (i := 0) rfl rfl ?_
  refine z_iload C1 dL_law_2303 (i := 4) rfl ?_
  refine z_iconst C1 dL_law_2305 (v := 2) (by decide) ?_
  refine z_iadd C1 dL_law_2306 ?_
  refine t_sld C1 X1 dL_law_2307 x2.1 ?_
  rw [x2.2]
  refine t_callV C1 (rest := []) (c2 := cells + 30) (s2 := slots + 8828) (kd := 100) (i := 0) [.int a1, .int a2] dL_law_2308 lk_L_254 li_X12_mend le_X12_mend (c_X12_mend hfl hw) rfl rfl (by decide) rfl ⟨_, rfl⟩ rfl ⟨Nat.le_of_ble_eq_true rfl, Nat.le_of_ble_eq_true rfl⟩ (Nat.le_of_ble_eq_true rfl) ⟨Nat.le_refl _, Nat.le_refl _, hc, hs⟩ (k_Wi fun b s2 hb => ?_)
  refine z_istore C1 dL_law_2311 (lc' := [some (.ref 208), some (.ref 10), some (.ref 100), some (.ref 9), some (.int i), some (.int kc), some (.int b), none]) (by decide) rfl ?_
  refine z_aload_n C1 dL_law_2313 (i := 2) rfl rfl ?_
  refine t_callV C1 (rest := []) (c2 := cells + 30) (s2 := slots + 8828) (kd := 100) (i := 0) [] dL_law_2314 lk_L_156 li_X12_thrown le_X12_thrown (c_X12_thrown hfl (P := fun r => r = kc) hb.1) rfl rfl (by decide) rfl ⟨_, rfl⟩ rfl ⟨Nat.le_of_ble_eq_true rfl, Nat.le_of_ble_eq_true rfl⟩ (Nat.le_of_ble_eq_true rfl) ⟨Nat.le_refl _, Nat.le_refl _, hc, hs⟩ (k_Ri fun t ht => ?_)
  refine z_iload C1 dL_law_2317 (i := 5) rfl ?_
  refine z_icmp_eq C1 dL_law_2319 (tgt := 2324) (by decide) (fun _ => ?_) (fun z => absurd ht z)
  refine z_iload C1 dL_law_2324 (i := 5) rfl ?_
  refine z_if_ne C1 dL_law_2326 (tgt := 2341) (by decide) (fun _ => ?_) (fun k0 => ?_)
  · refine z_goto C1 dL_law_2341 (tgt := 3262) (by decide) ?_
    exact t_drop [true, true, true, true, true, false, false, false] rfl (zG_y x (hK x s2 hb.2.2))
  · refine z_aload_n C1 dL_law_2329 (i := 3) rfl rfl ?_
    refine z_iconst C1 dL_law_2330 (v := 0) (by decide) ?_
    refine t_jld C1 dL_law_2331 rfl ?_
    refine z_iload C1 dL_law_2332 (i := 6) rfl ?_
    refine z_i2l C1 dL_law_2334 ?_
    refine z_lcmp C1 dL_law_2335 ?_
    refine z_if_eq C1 dL_law_2336 (tgt := 2341) (by decide) (fun _ => ?_) (fun z => absurd (by rw [hb.2.1 k0]; exact zcmp0 (hx k0)) z)
    refine z_goto C1 dL_law_2341 (tgt := 3262) (by decide) ?_
    exact t_drop [true, true, true, true, true, false, false, false] rfl (zG_y x (hK x s2 hb.2.2))
set_option maxHeartbeats 4000000 in
set_option maxRecDepth 100000 in
theorem law_30 {Z : zZ} {p : Program} {l : Launch} {e : Env} {s : State} {m : MethodId} {args : Array Value} {below : List Frame} {meth : Method} {c : Code} {ad0 : Nat → Nat} {h0 : zH} {Q : State → Prop} {L : Nat} {xs : Nat → Int32} {st : zTs} {i : Int32} {cells slots : Nat} {a1 : Int32} {a2 : Int32} (hfl : l.stackTraces = false) (C : zC Z p s m args meth c cL_law 8 RL) (X : zSx Z s L xs) (h : qR st) (x1 : vp_in (i + 1) L ∧ xs (i + 1).toNatClampNeg = a1) (x2 : vp_in (i + 2) L ∧ xs (i + 2).toNatClampNeg = a2) (hc : cells + 30 ≤ room_1.cells) (hs : slots + 8828 ≤ room_1.slots) (hK : ∀ x st1, qR st1 → zG Z ad0 h0 p l e room_1 s m args below meth c Q (cells + 30) (slots + 8828) (zh (zZx Z x) zm1 st1) 8 3262 [some (.ref 208), some (.ref 10), some (.ref 100), some (.ref 9), some (.int i), none, none, none] []) : zG Z ad0 h0 p l e room_1 s m args below meth c Q cells slots (zh Z zm1 st) 8 2344 [some (.ref 208), some (.ref 10), some (.ref 100), some (.ref 9), some (.int i), none, none, none] [] := by
  refine z_aload_n C dL_law_2344 (i := 1) rfl rfl ?_
  refine z_aload_n C dL_law_2345 (i := 0) rfl rfl ?_
  refine z_iload C dL_law_2346 (i := 4) rfl ?_
  refine z_iconst C dL_law_2348 (v := 1) (by decide) ?_
  refine z_iadd C dL_law_2349 ?_
  refine t_sld C X dL_law_2350 x1.1 ?_
  rw [x1.2]
  refine z_aload_n C dL_law_2351 (i := 0) rfl rfl ?_
  refine z_iload C dL_law_2352 (i := 4) rfl ?_
  refine z_iconst C dL_law_2354 (v := 2) (by decide) ?_
  refine z_iadd C dL_law_2355 ?_
  refine t_sld C X dL_law_2356 x2.1 ?_
  rw [x2.2]
  refine z_aload_n C dL_law_2357 (i := 3) rfl rfl ?_
  refine t_callSO C (rest := []) (c2 := cells + 30) (s2 := slots + 8828) [.ref 10, .int a1, .int a2, .ref 9] dL_law_2358 lw_L_payment (c_L_payment hfl (P1 := fun kc x s9 => ∃ r : Int32, (kc = 0 → x = zjn r.toInt64) ∧ w_X12_payment s9 a1 a2 (zOK kc r)) (b_payment h) (fun k9 hx => by rcases hx with ⟨rfl, hx⟩ | ⟨rfl, hx⟩ <;> first | exact Or.inl ⟨rfl, fun _ => ⟨0, fun z => absurd z (by decide), hx⟩⟩ | exact Or.inr (⟨rfl, fun _ => ⟨0, fun z => absurd z (by decide), hx⟩⟩)) (fun r hp => ⟨r, fun _ => rfl, hp⟩)) rfl rfl ⟨Nat.le_of_ble_eq_true rfl, Nat.le_of_ble_eq_true rfl⟩ (Nat.le_of_ble_eq_true rfl) ⟨Nat.add_le_add_left (Nat.le_of_ble_eq_true rfl) _, Nat.add_le_add_left (Nat.le_of_ble_eq_true rfl) _, hc, hs⟩ (k_Wx fun kc x s9 hp => ?_)
  obtain ⟨r, hx, hw⟩ := hp
  have C1 := zC_x C x
  have X1 : zSx (zZx Z x) s L xs := X
  refine z_istore C1 dL_law_2361 (lc' := [some (.ref 208), some (.ref 10), some (.ref 100), some (.ref 9), some (.int i), some (.int kc), none, none]) (by decide) rfl ?_
  refine z_aload_n C1 dL_law_2363 (i := 2) rfl rfl ?_
  refine z_aload_n C1 dL_law_2364 (i := 0) rfl rfl ?_
  refine z_iload C1 dL_law_2365 (i := 4) rfl ?_
  refine z_iconst C1 dL_law_2367 (v := 1) (by decide) ?_
  refine z_iadd C1 dL_law_2368 ?_
  refine t_sld C1 X1 dL_law_2369 x1.1 ?_
  rw [x1.2]
  refine z_aload_n C1 dL_law_2370 (i := 0) rfl rfl ?_
  refine z_iload C1 dL_law_2371 (i := 4) rfl ?_
  refine z_iconst C1 dL_law_2373 (v := 2) (by decide) ?_
  refine z_iadd C1 dL_law_2374 ?_
  refine t_sld C1 X1 dL_law_2375 x2.1 ?_
  rw [x2.2]
  refine t_callV C1 (rest := []) (c2 := cells + 30) (s2 := slots + 8828) (kd := 100) (i := 0) [.int a1, .int a2] dL_law_2376 lk_L_257 li_X12_payment le_X12_payment (c_X12_payment hfl hw) rfl rfl (by decide) rfl ⟨_, rfl⟩ rfl ⟨Nat.le_of_ble_eq_true rfl, Nat.le_of_ble_eq_true rfl⟩ (Nat.le_of_ble_eq_true rfl) ⟨Nat.le_refl _, Nat.le_refl _, hc, hs⟩ (k_Wi fun b s2 hb => ?_)
  refine z_istore C1 dL_law_2379 (lc' := [some (.ref 208), some (.ref 10), some (.ref 100), some (.ref 9), some (.int i), some (.int kc), some (.int b), none]) (by decide) rfl ?_
  refine z_aload_n C1 dL_law_2381 (i := 2) rfl rfl ?_
  refine t_callV C1 (rest := []) (c2 := cells + 30) (s2 := slots + 8828) (kd := 100) (i := 0) [] dL_law_2382 lk_L_156 li_X12_thrown le_X12_thrown (c_X12_thrown hfl (P := fun r => r = kc) hb.1) rfl rfl (by decide) rfl ⟨_, rfl⟩ rfl ⟨Nat.le_of_ble_eq_true rfl, Nat.le_of_ble_eq_true rfl⟩ (Nat.le_of_ble_eq_true rfl) ⟨Nat.le_refl _, Nat.le_refl _, hc, hs⟩ (k_Ri fun t ht => ?_)
  refine z_iload C1 dL_law_2385 (i := 5) rfl ?_
  refine z_icmp_eq C1 dL_law_2387 (tgt := 2392) (by decide) (fun _ => ?_) (fun z => absurd ht z)
  refine z_iload C1 dL_law_2392 (i := 5) rfl ?_
  refine z_if_ne C1 dL_law_2394 (tgt := 2409) (by decide) (fun _ => ?_) (fun k0 => ?_)
  · refine z_goto C1 dL_law_2409 (tgt := 3262) (by decide) ?_
    exact t_drop [true, true, true, true, true, false, false, false] rfl (zG_y x (hK x s2 hb.2.2))
  · refine z_aload_n C1 dL_law_2397 (i := 3) rfl rfl ?_
    refine z_iconst C1 dL_law_2398 (v := 0) (by decide) ?_
    refine t_jld C1 dL_law_2399 rfl ?_
    refine z_iload C1 dL_law_2400 (i := 6) rfl ?_
    refine z_i2l C1 dL_law_2402 ?_
    refine z_lcmp C1 dL_law_2403 ?_
    refine z_if_eq C1 dL_law_2404 (tgt := 2409) (by decide) (fun _ => ?_) (fun z => absurd (by rw [hb.2.1 k0]; exact zcmp0 (hx k0)) z)
    refine z_goto C1 dL_law_2409 (tgt := 3262) (by decide) ?_
    exact t_drop [true, true, true, true, true, false, false, false] rfl (zG_y x (hK x s2 hb.2.2))
set_option maxHeartbeats 4000000 in
set_option maxRecDepth 100000 in
theorem law_31 {Z : zZ} {p : Program} {l : Launch} {e : Env} {s : State} {m : MethodId} {args : Array Value} {below : List Frame} {meth : Method} {c : Code} {ad0 : Nat → Nat} {h0 : zH} {Q : State → Prop} {L : Nat} {xs : Nat → Int32} {st : zTs} {i : Int32} {cells slots : Nat} {a1 : Int32} {a2 : Int32} {a3 : Int32} (hfl : l.stackTraces = false) (C : zC Z p s m args meth c cL_law 8 RL) (X : zSx Z s L xs) (h : qR st) (x1 : vp_in (i + 1) L ∧ xs (i + 1).toNatClampNeg = a1) (x2 : vp_in (i + 2) L ∧ xs (i + 2).toNatClampNeg = a2) (x3 : vp_in (i + 3) L ∧ xs (i + 3).toNatClampNeg = a3) (hc : cells + 30 ≤ room_1.cells) (hs : slots + 8828 ≤ room_1.slots) (hK : ∀ x st1, qR st1 → zG Z ad0 h0 p l e room_1 s m args below meth c Q (cells + 30) (slots + 8828) (zh (zZx Z x) zm1 st1) 8 3262 [some (.ref 208), some (.ref 10), some (.ref 100), some (.ref 9), some (.int i), none, none, none] []) : zG Z ad0 h0 p l e room_1 s m args below meth c Q cells slots (zh Z zm1 st) 8 2412 [some (.ref 208), some (.ref 10), some (.ref 100), some (.ref 9), some (.int i), none, none, none] [] := by
  refine z_aload_n C dL_law_2412 (i := 1) rfl rfl ?_
  refine z_aload_n C dL_law_2413 (i := 0) rfl rfl ?_
  refine z_iload C dL_law_2414 (i := 4) rfl ?_
  refine z_iconst C dL_law_2416 (v := 1) (by decide) ?_
  refine z_iadd C dL_law_2417 ?_
  refine t_sld C X dL_law_2418 x1.1 ?_
  rw [x1.2]
  refine z_aload_n C dL_law_2419 (i := 0) rfl rfl ?_
  refine z_iload C dL_law_2420 (i := 4) rfl ?_
  refine z_iconst C dL_law_2422 (v := 2) (by decide) ?_
  refine z_iadd C dL_law_2423 ?_
  refine t_sld C X dL_law_2424 x2.1 ?_
  rw [x2.2]
  refine z_aload_n C dL_law_2425 (i := 0) rfl rfl ?_
  refine z_iload C dL_law_2426 (i := 4) rfl ?_
  refine z_iconst C dL_law_2428 (v := 3) (by decide) ?_
  refine z_iadd C dL_law_2429 ?_
  refine t_sld C X dL_law_2430 x3.1 ?_
  rw [x3.2]
  refine z_aload_n C dL_law_2431 (i := 3) rfl rfl ?_
  refine t_callSO C (rest := []) (c2 := cells + 30) (s2 := slots + 8828) [.ref 10, .int a1, .int a2, .int a3, .ref 9] dL_law_2432 lw_L_balance (c_L_balance hfl (P1 := fun kc x s9 => ∃ r : Int64, (kc = 0 → x = zjn r) ∧ w_X12_balance s9 a1 a2 a3 (zOKJ kc r)) (b_balance h) (fun k9 hx => by obtain ⟨rfl, hx⟩ := hx; exact ⟨rfl, fun _ => ⟨0, fun z => absurd z (by decide), hx⟩⟩) (fun r hp => ⟨r, fun _ => rfl, hp⟩)) rfl rfl ⟨Nat.le_of_ble_eq_true rfl, Nat.le_of_ble_eq_true rfl⟩ (Nat.le_of_ble_eq_true rfl) ⟨Nat.add_le_add_left (Nat.le_of_ble_eq_true rfl) _, Nat.add_le_add_left (Nat.le_of_ble_eq_true rfl) _, hc, hs⟩ (k_Wx fun kc x s9 hp => ?_)
  obtain ⟨r, hx, hw⟩ := hp
  have C1 := zC_x C x
  have X1 : zSx (zZx Z x) s L xs := X
  refine z_istore C1 dL_law_2435 (lc' := [some (.ref 208), some (.ref 10), some (.ref 100), some (.ref 9), some (.int i), some (.int kc), none, none]) (by decide) rfl ?_
  refine z_aload_n C1 dL_law_2437 (i := 2) rfl rfl ?_
  refine z_aload_n C1 dL_law_2438 (i := 0) rfl rfl ?_
  refine z_iload C1 dL_law_2439 (i := 4) rfl ?_
  refine z_iconst C1 dL_law_2441 (v := 1) (by decide) ?_
  refine z_iadd C1 dL_law_2442 ?_
  refine t_sld C1 X1 dL_law_2443 x1.1 ?_
  rw [x1.2]
  refine z_aload_n C1 dL_law_2444 (i := 0) rfl rfl ?_
  refine z_iload C1 dL_law_2445 (i := 4) rfl ?_
  refine z_iconst C1 dL_law_2447 (v := 2) (by decide) ?_
  refine z_iadd C1 dL_law_2448 ?_
  refine t_sld C1 X1 dL_law_2449 x2.1 ?_
  rw [x2.2]
  refine z_aload_n C1 dL_law_2450 (i := 0) rfl rfl ?_
  refine z_iload C1 dL_law_2451 (i := 4) rfl ?_
  refine z_iconst C1 dL_law_2453 (v := 3) (by decide) ?_
  refine z_iadd C1 dL_law_2454 ?_
  refine t_sld C1 X1 dL_law_2455 x3.1 ?_
  rw [x3.2]
  refine t_callV C1 (rest := []) (c2 := cells + 30) (s2 := slots + 8828) (kd := 100) (i := 0) [.int a1, .int a2, .int a3] dL_law_2456 lk_L_260 li_X12_balance le_X12_balance (c_X12_balance hfl hw) rfl rfl (by decide) rfl ⟨_, rfl⟩ rfl ⟨Nat.le_of_ble_eq_true rfl, Nat.le_of_ble_eq_true rfl⟩ (Nat.le_of_ble_eq_true rfl) ⟨Nat.le_refl _, Nat.le_refl _, hc, hs⟩ (k_Wl fun b s2 hb => ?_)
  refine z_lstore C1 dL_law_2459 (lc' := [some (.ref 208), some (.ref 10), some (.ref 100), some (.ref 9), some (.int i), some (.int kc), some (.long (b)), none]) (by decide) rfl ?_
  refine z_aload_n C1 dL_law_2461 (i := 2) rfl rfl ?_
  refine t_callV C1 (rest := []) (c2 := cells + 30) (s2 := slots + 8828) (kd := 100) (i := 0) [] dL_law_2462 lk_L_156 li_X12_thrown le_X12_thrown (c_X12_thrown hfl (P := fun r => r = kc) hb.1) rfl rfl (by decide) rfl ⟨_, rfl⟩ rfl ⟨Nat.le_of_ble_eq_true rfl, Nat.le_of_ble_eq_true rfl⟩ (Nat.le_of_ble_eq_true rfl) ⟨Nat.le_refl _, Nat.le_refl _, hc, hs⟩ (k_Ri fun t ht => ?_)
  refine z_iload C1 dL_law_2465 (i := 5) rfl ?_
  refine z_icmp_eq C1 dL_law_2467 (tgt := 2472) (by decide) (fun _ => ?_) (fun z => absurd ht z)
  refine z_iload C1 dL_law_2472 (i := 5) rfl ?_
  refine z_if_ne C1 dL_law_2474 (tgt := 2488) (by decide) (fun _ => ?_) (fun k0 => ?_)
  · refine z_goto C1 dL_law_2488 (tgt := 3262) (by decide) ?_
    exact t_drop [true, true, true, true, true, false, false, false] rfl (zG_y x (hK x s2 hb.2.2))
  · refine z_aload_n C1 dL_law_2477 (i := 3) rfl rfl ?_
    refine z_iconst C1 dL_law_2478 (v := 0) (by decide) ?_
    refine t_jld C1 dL_law_2479 rfl ?_
    refine z_lload C1 dL_law_2480 (i := 6) rfl ?_
    refine z_lcmp C1 dL_law_2482 ?_
    refine z_if_eq C1 dL_law_2483 (tgt := 2488) (by decide) (fun _ => ?_) (fun z => absurd (by rw [hb.2.1 k0]; exact zcmp0 (hx k0)) z)
    refine z_goto C1 dL_law_2488 (tgt := 3262) (by decide) ?_
    exact t_drop [true, true, true, true, true, false, false, false] rfl (zG_y x (hK x s2 hb.2.2))
set_option maxHeartbeats 4000000 in
set_option maxRecDepth 100000 in
theorem law_32 {Z : zZ} {p : Program} {l : Launch} {e : Env} {s : State} {m : MethodId} {args : Array Value} {below : List Frame} {meth : Method} {c : Code} {ad0 : Nat → Nat} {h0 : zH} {Q : State → Prop} {L : Nat} {xs : Nat → Int32} {st : zTs} {i : Int32} {cells slots : Nat} {a1 : Int32} (hfl : l.stackTraces = false) (C : zC Z p s m args meth c cL_law 8 RL) (X : zSx Z s L xs) (h : qR st) (x1 : vp_in (i + 1) L ∧ xs (i + 1).toNatClampNeg = a1) (hc : cells + 30 ≤ room_1.cells) (hs : slots + 8828 ≤ room_1.slots) (hK : ∀ x st1, qR st1 → zG Z ad0 h0 p l e room_1 s m args below meth c Q (cells + 30) (slots + 8828) (zh (zZx Z x) zm1 st1) 8 3262 [some (.ref 208), some (.ref 10), some (.ref 100), some (.ref 9), some (.int i), none, none, none] []) : zG Z ad0 h0 p l e room_1 s m args below meth c Q cells slots (zh Z zm1 st) 8 2491 [some (.ref 208), some (.ref 10), some (.ref 100), some (.ref 9), some (.int i), none, none, none] [] := by
  refine z_aload_n C dL_law_2491 (i := 1) rfl rfl ?_
  refine z_aload_n C dL_law_2492 (i := 0) rfl rfl ?_
  refine z_iload C dL_law_2493 (i := 4) rfl ?_
  refine z_iconst C dL_law_2495 (v := 1) (by decide) ?_
  refine z_iadd C dL_law_2496 ?_
  refine t_sld C X dL_law_2497 x1.1 ?_
  rw [x1.2]
  refine z_aload_n C dL_law_2498 (i := 3) rfl rfl ?_
  refine t_callSO C (rest := []) (c2 := cells + 30) (s2 := slots + 8828) [.ref 10, .int a1, .ref 9] dL_law_2499 lw_L_hand (c_L_hand hfl (P1 := fun kc x s9 => ∃ r : Int32, (kc = 0 → x = zjn r.toInt64) ∧ w_X12_hand s9 a1 (zOK kc r)) (b_hand h) (fun k9 s9 hx => by rcases hx with ⟨rfl, hx⟩ | ⟨rfl, hx⟩ <;> first | exact Or.inl ⟨rfl, fun _ => ⟨0, fun z => absurd z (by decide), hx⟩⟩ | exact Or.inr (⟨rfl, fun _ => ⟨0, fun z => absurd z (by decide), hx⟩⟩)) (fun r s9 hp => ⟨r, fun _ => rfl, hp⟩)) rfl rfl ⟨Nat.le_of_ble_eq_true rfl, Nat.le_of_ble_eq_true rfl⟩ (Nat.le_of_ble_eq_true rfl) ⟨Nat.add_le_add_left (Nat.le_of_ble_eq_true rfl) _, Nat.add_le_add_left (Nat.le_of_ble_eq_true rfl) _, hc, hs⟩ (k_Wx fun kc x s9 hp => ?_)
  obtain ⟨r, hx, hw⟩ := hp
  have C1 := zC_x C x
  have X1 : zSx (zZx Z x) s L xs := X
  refine z_istore C1 dL_law_2502 (lc' := [some (.ref 208), some (.ref 10), some (.ref 100), some (.ref 9), some (.int i), some (.int kc), none, none]) (by decide) rfl ?_
  refine z_aload_n C1 dL_law_2504 (i := 2) rfl rfl ?_
  refine z_aload_n C1 dL_law_2505 (i := 0) rfl rfl ?_
  refine z_iload C1 dL_law_2506 (i := 4) rfl ?_
  refine z_iconst C1 dL_law_2508 (v := 1) (by decide) ?_
  refine z_iadd C1 dL_law_2509 ?_
  refine t_sld C1 X1 dL_law_2510 x1.1 ?_
  rw [x1.2]
  refine t_callV C1 (rest := []) (c2 := cells + 30) (s2 := slots + 8828) (kd := 100) (i := 0) [.int a1] dL_law_2511 lk_L_263 li_X12_hand le_X12_hand (c_X12_hand hfl hw) rfl rfl (by decide) rfl ⟨_, rfl⟩ rfl ⟨Nat.le_of_ble_eq_true rfl, Nat.le_of_ble_eq_true rfl⟩ (Nat.le_of_ble_eq_true rfl) ⟨Nat.le_refl _, Nat.le_refl _, hc, hs⟩ (k_Wi fun b s2 hb => ?_)
  refine z_istore C1 dL_law_2514 (lc' := [some (.ref 208), some (.ref 10), some (.ref 100), some (.ref 9), some (.int i), some (.int kc), some (.int b), none]) (by decide) rfl ?_
  refine z_aload_n C1 dL_law_2516 (i := 2) rfl rfl ?_
  refine t_callV C1 (rest := []) (c2 := cells + 30) (s2 := slots + 8828) (kd := 100) (i := 0) [] dL_law_2517 lk_L_156 li_X12_thrown le_X12_thrown (c_X12_thrown hfl (P := fun r => r = kc) hb.1) rfl rfl (by decide) rfl ⟨_, rfl⟩ rfl ⟨Nat.le_of_ble_eq_true rfl, Nat.le_of_ble_eq_true rfl⟩ (Nat.le_of_ble_eq_true rfl) ⟨Nat.le_refl _, Nat.le_refl _, hc, hs⟩ (k_Ri fun t ht => ?_)
  refine z_iload C1 dL_law_2520 (i := 5) rfl ?_
  refine z_icmp_eq C1 dL_law_2522 (tgt := 2527) (by decide) (fun _ => ?_) (fun z => absurd ht z)
  refine z_iload C1 dL_law_2527 (i := 5) rfl ?_
  refine z_if_ne C1 dL_law_2529 (tgt := 2544) (by decide) (fun _ => ?_) (fun k0 => ?_)
  · refine z_goto C1 dL_law_2544 (tgt := 3262) (by decide) ?_
    exact t_drop [true, true, true, true, true, false, false, false] rfl (zG_y x (hK x s2 hb.2.2))
  · refine z_aload_n C1 dL_law_2532 (i := 3) rfl rfl ?_
    refine z_iconst C1 dL_law_2533 (v := 0) (by decide) ?_
    refine t_jld C1 dL_law_2534 rfl ?_
    refine z_iload C1 dL_law_2535 (i := 6) rfl ?_
    refine z_i2l C1 dL_law_2537 ?_
    refine z_lcmp C1 dL_law_2538 ?_
    refine z_if_eq C1 dL_law_2539 (tgt := 2544) (by decide) (fun _ => ?_) (fun z => absurd (by rw [hb.2.1 k0]; exact zcmp0 (hx k0)) z)
    refine z_goto C1 dL_law_2544 (tgt := 3262) (by decide) ?_
    exact t_drop [true, true, true, true, true, false, false, false] rfl (zG_y x (hK x s2 hb.2.2))
set_option maxHeartbeats 4000000 in
set_option maxRecDepth 100000 in
theorem law_33 {Z : zZ} {p : Program} {l : Launch} {e : Env} {s : State} {m : MethodId} {args : Array Value} {below : List Frame} {meth : Method} {c : Code} {ad0 : Nat → Nat} {h0 : zH} {Q : State → Prop} {L : Nat} {xs : Nat → Int32} {st : zTs} {i : Int32} {cells slots : Nat} {a1 : Int32} (hfl : l.stackTraces = false) (C : zC Z p s m args meth c cL_law 8 RL) (X : zSx Z s L xs) (h : qR st) (x1 : vp_in (i + 1) L ∧ xs (i + 1).toNatClampNeg = a1) (hc : cells + 30 ≤ room_1.cells) (hs : slots + 8828 ≤ room_1.slots) (hK : ∀ x st1, qR st1 → zG Z ad0 h0 p l e room_1 s m args below meth c Q (cells + 30) (slots + 8828) (zh (zZx Z x) zm1 st1) 8 3262 [some (.ref 208), some (.ref 10), some (.ref 100), some (.ref 9), some (.int i), none, none, none] []) : zG Z ad0 h0 p l e room_1 s m args below meth c Q cells slots (zh Z zm1 st) 8 2547 [some (.ref 208), some (.ref 10), some (.ref 100), some (.ref 9), some (.int i), none, none, none] [] := by
  refine z_aload_n C dL_law_2547 (i := 1) rfl rfl ?_
  refine z_aload_n C dL_law_2548 (i := 0) rfl rfl ?_
  refine z_iload C dL_law_2549 (i := 4) rfl ?_
  refine z_iconst C dL_law_2551 (v := 1) (by decide) ?_
  refine z_iadd C dL_law_2552 ?_
  refine t_sld C X dL_law_2553 x1.1 ?_
  rw [x1.2]
  refine z_aload_n C dL_law_2554 (i := 3) rfl rfl ?_
  refine t_callSO C (rest := []) (c2 := cells + 30) (s2 := slots + 8828) [.ref 10, .int a1, .ref 9] dL_law_2555 lw_L_survey (c_L_survey hfl (P1 := fun kc x s9 => ∃ r : Int32, (kc = 0 → x = zjn r.toInt64) ∧ w_X12_survey s9 a1 (zOK kc r)) (b_survey h) (fun k9 s9 hx => by rcases hx with ⟨rfl, hx⟩ | ⟨rfl, hx⟩ <;> first | exact Or.inl ⟨rfl, fun _ => ⟨0, fun z => absurd z (by decide), hx⟩⟩ | exact Or.inr (⟨rfl, fun _ => ⟨0, fun z => absurd z (by decide), hx⟩⟩)) (fun r s9 hp => ⟨r, fun _ => rfl, hp⟩)) rfl rfl ⟨Nat.le_of_ble_eq_true rfl, Nat.le_of_ble_eq_true rfl⟩ (Nat.le_of_ble_eq_true rfl) ⟨Nat.add_le_add_left (Nat.le_of_ble_eq_true rfl) _, Nat.add_le_add_left (Nat.le_of_ble_eq_true rfl) _, hc, hs⟩ (k_Wx fun kc x s9 hp => ?_)
  obtain ⟨r, hx, hw⟩ := hp
  have C1 := zC_x C x
  have X1 : zSx (zZx Z x) s L xs := X
  refine z_istore C1 dL_law_2558 (lc' := [some (.ref 208), some (.ref 10), some (.ref 100), some (.ref 9), some (.int i), some (.int kc), none, none]) (by decide) rfl ?_
  refine z_aload_n C1 dL_law_2560 (i := 2) rfl rfl ?_
  refine z_aload_n C1 dL_law_2561 (i := 0) rfl rfl ?_
  refine z_iload C1 dL_law_2562 (i := 4) rfl ?_
  refine z_iconst C1 dL_law_2564 (v := 1) (by decide) ?_
  refine z_iadd C1 dL_law_2565 ?_
  refine t_sld C1 X1 dL_law_2566 x1.1 ?_
  rw [x1.2]
  refine t_callV C1 (rest := []) (c2 := cells + 30) (s2 := slots + 8828) (kd := 100) (i := 0) [.int a1] dL_law_2567 lk_L_266 li_X12_survey le_X12_survey (c_X12_survey hfl hw) rfl rfl (by decide) rfl ⟨_, rfl⟩ rfl ⟨Nat.le_of_ble_eq_true rfl, Nat.le_of_ble_eq_true rfl⟩ (Nat.le_of_ble_eq_true rfl) ⟨Nat.le_refl _, Nat.le_refl _, hc, hs⟩ (k_Wi fun b s2 hb => ?_)
  refine z_istore C1 dL_law_2570 (lc' := [some (.ref 208), some (.ref 10), some (.ref 100), some (.ref 9), some (.int i), some (.int kc), some (.int b), none]) (by decide) rfl ?_
  refine z_aload_n C1 dL_law_2572 (i := 2) rfl rfl ?_
  refine t_callV C1 (rest := []) (c2 := cells + 30) (s2 := slots + 8828) (kd := 100) (i := 0) [] dL_law_2573 lk_L_156 li_X12_thrown le_X12_thrown (c_X12_thrown hfl (P := fun r => r = kc) hb.1) rfl rfl (by decide) rfl ⟨_, rfl⟩ rfl ⟨Nat.le_of_ble_eq_true rfl, Nat.le_of_ble_eq_true rfl⟩ (Nat.le_of_ble_eq_true rfl) ⟨Nat.le_refl _, Nat.le_refl _, hc, hs⟩ (k_Ri fun t ht => ?_)
  refine z_iload C1 dL_law_2576 (i := 5) rfl ?_
  refine z_icmp_eq C1 dL_law_2578 (tgt := 2583) (by decide) (fun _ => ?_) (fun z => absurd ht z)
  refine z_iload C1 dL_law_2583 (i := 5) rfl ?_
  refine z_if_ne C1 dL_law_2585 (tgt := 2600) (by decide) (fun _ => ?_) (fun k0 => ?_)
  · refine z_goto C1 dL_law_2600 (tgt := 3262) (by decide) ?_
    exact t_drop [true, true, true, true, true, false, false, false] rfl (zG_y x (hK x s2 hb.2.2))
  · refine z_aload_n C1 dL_law_2588 (i := 3) rfl rfl ?_
    refine z_iconst C1 dL_law_2589 (v := 0) (by decide) ?_
    refine t_jld C1 dL_law_2590 rfl ?_
    refine z_iload C1 dL_law_2591 (i := 6) rfl ?_
    refine z_i2l C1 dL_law_2593 ?_
    refine z_lcmp C1 dL_law_2594 ?_
    refine z_if_eq C1 dL_law_2595 (tgt := 2600) (by decide) (fun _ => ?_) (fun z => absurd (by rw [hb.2.1 k0]; exact zcmp0 (hx k0)) z)
    refine z_goto C1 dL_law_2600 (tgt := 3262) (by decide) ?_
    exact t_drop [true, true, true, true, true, false, false, false] rfl (zG_y x (hK x s2 hb.2.2))
set_option maxHeartbeats 4000000 in
set_option maxRecDepth 100000 in
theorem law_34 {Z : zZ} {p : Program} {l : Launch} {e : Env} {s : State} {m : MethodId} {args : Array Value} {below : List Frame} {meth : Method} {c : Code} {ad0 : Nat → Nat} {h0 : zH} {Q : State → Prop} {L : Nat} {xs : Nat → Int32} {st : zTs} {i : Int32} {cells slots : Nat} {a1 : Int32} {a2 : Int32} {a3 : Int32} (hfl : l.stackTraces = false) (C : zC Z p s m args meth c cL_law 8 RL) (X : zSx Z s L xs) (h : qR st) (x1 : vp_in (i + 1) L ∧ xs (i + 1).toNatClampNeg = a1) (x2 : vp_in (i + 2) L ∧ xs (i + 2).toNatClampNeg = a2) (x3 : vp_in (i + 3) L ∧ xs (i + 3).toNatClampNeg = a3) (hc : cells + 30 ≤ room_1.cells) (hs : slots + 8828 ≤ room_1.slots) (hK : ∀ x st1, qR st1 → zG Z ad0 h0 p l e room_1 s m args below meth c Q (cells + 30) (slots + 8828) (zh (zZx Z x) zm1 st1) 8 3262 [some (.ref 208), some (.ref 10), some (.ref 100), some (.ref 9), some (.int i), none, none, none] []) : zG Z ad0 h0 p l e room_1 s m args below meth c Q cells slots (zh Z zm1 st) 8 2603 [some (.ref 208), some (.ref 10), some (.ref 100), some (.ref 9), some (.int i), none, none, none] [] := by
  refine z_aload_n C dL_law_2603 (i := 1) rfl rfl ?_
  refine z_aload_n C dL_law_2604 (i := 0) rfl rfl ?_
  refine z_iload C dL_law_2605 (i := 4) rfl ?_
  refine z_iconst C dL_law_2607 (v := 1) (by decide) ?_
  refine z_iadd C dL_law_2608 ?_
  refine t_sld C X dL_law_2609 x1.1 ?_
  rw [x1.2]
  refine z_aload_n C dL_law_2610 (i := 0) rfl rfl ?_
  refine z_iload C dL_law_2611 (i := 4) rfl ?_
  refine z_iconst C dL_law_2613 (v := 2) (by decide) ?_
  refine z_iadd C dL_law_2614 ?_
  refine t_sld C X dL_law_2615 x2.1 ?_
  rw [x2.2]
  refine z_aload_n C dL_law_2616 (i := 0) rfl rfl ?_
  refine z_iload C dL_law_2617 (i := 4) rfl ?_
  refine z_iconst C dL_law_2619 (v := 3) (by decide) ?_
  refine z_iadd C dL_law_2620 ?_
  refine t_sld C X dL_law_2621 x3.1 ?_
  rw [x3.2]
  refine z_aload_n C dL_law_2622 (i := 3) rfl rfl ?_
  refine t_callSO C (rest := []) (c2 := cells + 30) (s2 := slots + 8828) [.ref 10, .int a1, .int a2, .int a3, .ref 9] dL_law_2623 lw_L_crack (c_L_crack hfl (P1 := fun kc x s9 => ∃ r : Int32, (kc = 0 → x = zjn r.toInt64) ∧ w_X12_crack s9 a1 a2 a3 (zOK kc r)) (b_crack h) (fun k9 s9 hx => by rcases hx with ⟨rfl, hx⟩ | ⟨rfl, hx⟩ <;> first | exact Or.inl ⟨rfl, fun _ => ⟨0, fun z => absurd z (by decide), hx⟩⟩ | exact Or.inr (⟨rfl, fun _ => ⟨0, fun z => absurd z (by decide), hx⟩⟩)) (fun r s9 hp => ⟨r, fun _ => rfl, hp⟩)) rfl rfl ⟨Nat.le_of_ble_eq_true rfl, Nat.le_of_ble_eq_true rfl⟩ (Nat.le_of_ble_eq_true rfl) ⟨Nat.add_le_add_left (Nat.le_of_ble_eq_true rfl) _, Nat.add_le_add_left (Nat.le_of_ble_eq_true rfl) _, hc, hs⟩ (k_Wx fun kc x s9 hp => ?_)
  obtain ⟨r, hx, hw⟩ := hp
  have C1 := zC_x C x
  have X1 : zSx (zZx Z x) s L xs := X
  refine z_istore C1 dL_law_2626 (lc' := [some (.ref 208), some (.ref 10), some (.ref 100), some (.ref 9), some (.int i), some (.int kc), none, none]) (by decide) rfl ?_
  refine z_aload_n C1 dL_law_2628 (i := 2) rfl rfl ?_
  refine z_aload_n C1 dL_law_2629 (i := 0) rfl rfl ?_
  refine z_iload C1 dL_law_2630 (i := 4) rfl ?_
  refine z_iconst C1 dL_law_2632 (v := 1) (by decide) ?_
  refine z_iadd C1 dL_law_2633 ?_
  refine t_sld C1 X1 dL_law_2634 x1.1 ?_
  rw [x1.2]
  refine z_aload_n C1 dL_law_2635 (i := 0) rfl rfl ?_
  refine z_iload C1 dL_law_2636 (i := 4) rfl ?_
  refine z_iconst C1 dL_law_2638 (v := 2) (by decide) ?_
  refine z_iadd C1 dL_law_2639 ?_
  refine t_sld C1 X1 dL_law_2640 x2.1 ?_
  rw [x2.2]
  refine z_aload_n C1 dL_law_2641 (i := 0) rfl rfl ?_
  refine z_iload C1 dL_law_2642 (i := 4) rfl ?_
  refine z_iconst C1 dL_law_2644 (v := 3) (by decide) ?_
  refine z_iadd C1 dL_law_2645 ?_
  refine t_sld C1 X1 dL_law_2646 x3.1 ?_
  rw [x3.2]
  refine t_callV C1 (rest := []) (c2 := cells + 30) (s2 := slots + 8828) (kd := 100) (i := 0) [.int a1, .int a2, .int a3] dL_law_2647 lk_L_269 li_X12_crack le_X12_crack (c_X12_crack hfl hw) rfl rfl (by decide) rfl ⟨_, rfl⟩ rfl ⟨Nat.le_of_ble_eq_true rfl, Nat.le_of_ble_eq_true rfl⟩ (Nat.le_of_ble_eq_true rfl) ⟨Nat.le_refl _, Nat.le_refl _, hc, hs⟩ (k_Wi fun b s2 hb => ?_)
  refine z_istore C1 dL_law_2650 (lc' := [some (.ref 208), some (.ref 10), some (.ref 100), some (.ref 9), some (.int i), some (.int kc), some (.int b), none]) (by decide) rfl ?_
  refine z_aload_n C1 dL_law_2652 (i := 2) rfl rfl ?_
  refine t_callV C1 (rest := []) (c2 := cells + 30) (s2 := slots + 8828) (kd := 100) (i := 0) [] dL_law_2653 lk_L_156 li_X12_thrown le_X12_thrown (c_X12_thrown hfl (P := fun r => r = kc) hb.1) rfl rfl (by decide) rfl ⟨_, rfl⟩ rfl ⟨Nat.le_of_ble_eq_true rfl, Nat.le_of_ble_eq_true rfl⟩ (Nat.le_of_ble_eq_true rfl) ⟨Nat.le_refl _, Nat.le_refl _, hc, hs⟩ (k_Ri fun t ht => ?_)
  refine z_iload C1 dL_law_2656 (i := 5) rfl ?_
  refine z_icmp_eq C1 dL_law_2658 (tgt := 2663) (by decide) (fun _ => ?_) (fun z => absurd ht z)
  refine z_iload C1 dL_law_2663 (i := 5) rfl ?_
  refine z_if_ne C1 dL_law_2665 (tgt := 2680) (by decide) (fun _ => ?_) (fun k0 => ?_)
  · refine z_goto C1 dL_law_2680 (tgt := 3262) (by decide) ?_
    exact t_drop [true, true, true, true, true, false, false, false] rfl (zG_y x (hK x s2 hb.2.2))
  · refine z_aload_n C1 dL_law_2668 (i := 3) rfl rfl ?_
    refine z_iconst C1 dL_law_2669 (v := 0) (by decide) ?_
    refine t_jld C1 dL_law_2670 rfl ?_
    refine z_iload C1 dL_law_2671 (i := 6) rfl ?_
    refine z_i2l C1 dL_law_2673 ?_
    refine z_lcmp C1 dL_law_2674 ?_
    refine z_if_eq C1 dL_law_2675 (tgt := 2680) (by decide) (fun _ => ?_) (fun z => absurd (by rw [hb.2.1 k0]; exact zcmp0 (hx k0)) z)
    refine z_goto C1 dL_law_2680 (tgt := 3262) (by decide) ?_
    exact t_drop [true, true, true, true, true, false, false, false] rfl (zG_y x (hK x s2 hb.2.2))
set_option maxHeartbeats 4000000 in
set_option maxRecDepth 100000 in
theorem law_35 {Z : zZ} {p : Program} {l : Launch} {e : Env} {s : State} {m : MethodId} {args : Array Value} {below : List Frame} {meth : Method} {c : Code} {ad0 : Nat → Nat} {h0 : zH} {Q : State → Prop} {L : Nat} {xs : Nat → Int32} {st : zTs} {i : Int32} {cells slots : Nat} {a1 : Int32} {a2 : Int32} {a3 : Int32} (hfl : l.stackTraces = false) (C : zC Z p s m args meth c cL_law 8 RL) (X : zSx Z s L xs) (h : qR st) (x1 : vp_in (i + 1) L ∧ xs (i + 1).toNatClampNeg = a1) (x2 : vp_in (i + 2) L ∧ xs (i + 2).toNatClampNeg = a2) (x3 : vp_in (i + 3) L ∧ xs (i + 3).toNatClampNeg = a3) (hc : cells + 30 ≤ room_1.cells) (hs : slots + 8828 ≤ room_1.slots) (hK : ∀ x st1, qR st1 → zG Z ad0 h0 p l e room_1 s m args below meth c Q (cells + 30) (slots + 8828) (zh (zZx Z x) zm1 st1) 8 3262 [some (.ref 208), some (.ref 10), some (.ref 100), some (.ref 9), some (.int i), none, none, none] []) : zG Z ad0 h0 p l e room_1 s m args below meth c Q cells slots (zh Z zm1 st) 8 2683 [some (.ref 208), some (.ref 10), some (.ref 100), some (.ref 9), some (.int i), none, none, none] [] := by
  refine z_aload_n C dL_law_2683 (i := 1) rfl rfl ?_
  refine z_aload_n C dL_law_2684 (i := 0) rfl rfl ?_
  refine z_iload C dL_law_2685 (i := 4) rfl ?_
  refine z_iconst C dL_law_2687 (v := 1) (by decide) ?_
  refine z_iadd C dL_law_2688 ?_
  refine t_sld C X dL_law_2689 x1.1 ?_
  rw [x1.2]
  refine z_aload_n C dL_law_2690 (i := 0) rfl rfl ?_
  refine z_iload C dL_law_2691 (i := 4) rfl ?_
  refine z_iconst C dL_law_2693 (v := 2) (by decide) ?_
  refine z_iadd C dL_law_2694 ?_
  refine t_sld C X dL_law_2695 x2.1 ?_
  rw [x2.2]
  refine z_aload_n C dL_law_2696 (i := 0) rfl rfl ?_
  refine z_iload C dL_law_2697 (i := 4) rfl ?_
  refine z_iconst C dL_law_2699 (v := 3) (by decide) ?_
  refine z_iadd C dL_law_2700 ?_
  refine t_sld C X dL_law_2701 x3.1 ?_
  rw [x3.2]
  refine z_aload_n C dL_law_2702 (i := 3) rfl rfl ?_
  refine t_callSO C (rest := []) (c2 := cells + 30) (s2 := slots + 8828) [.ref 10, .int a1, .int a2, .int a3, .ref 9] dL_law_2703 lw_L_joined (c_L_joined hfl (P1 := fun kc x s9 => ∃ r : Int32, (kc = 0 → x = zjn r.toInt64) ∧ w_X12_joined s9 a1 a2 a3 (zOK kc r)) (b_joined h) (fun k9 s9 hx => by rcases hx with ⟨rfl, hx⟩ | ⟨rfl, hx⟩ <;> first | exact Or.inl ⟨rfl, fun _ => ⟨0, fun z => absurd z (by decide), hx⟩⟩ | exact Or.inr (⟨rfl, fun _ => ⟨0, fun z => absurd z (by decide), hx⟩⟩)) (fun r s9 hp => ⟨r, fun _ => rfl, hp⟩)) rfl rfl ⟨Nat.le_of_ble_eq_true rfl, Nat.le_of_ble_eq_true rfl⟩ (Nat.le_of_ble_eq_true rfl) ⟨Nat.add_le_add_left (Nat.le_of_ble_eq_true rfl) _, Nat.add_le_add_left (Nat.le_of_ble_eq_true rfl) _, hc, hs⟩ (k_Wx fun kc x s9 hp => ?_)
  obtain ⟨r, hx, hw⟩ := hp
  have C1 := zC_x C x
  have X1 : zSx (zZx Z x) s L xs := X
  refine z_istore C1 dL_law_2706 (lc' := [some (.ref 208), some (.ref 10), some (.ref 100), some (.ref 9), some (.int i), some (.int kc), none, none]) (by decide) rfl ?_
  refine z_aload_n C1 dL_law_2708 (i := 2) rfl rfl ?_
  refine z_aload_n C1 dL_law_2709 (i := 0) rfl rfl ?_
  refine z_iload C1 dL_law_2710 (i := 4) rfl ?_
  refine z_iconst C1 dL_law_2712 (v := 1) (by decide) ?_
  refine z_iadd C1 dL_law_2713 ?_
  refine t_sld C1 X1 dL_law_2714 x1.1 ?_
  rw [x1.2]
  refine z_aload_n C1 dL_law_2715 (i := 0) rfl rfl ?_
  refine z_iload C1 dL_law_2716 (i := 4) rfl ?_
  refine z_iconst C1 dL_law_2718 (v := 2) (by decide) ?_
  refine z_iadd C1 dL_law_2719 ?_
  refine t_sld C1 X1 dL_law_2720 x2.1 ?_
  rw [x2.2]
  refine z_aload_n C1 dL_law_2721 (i := 0) rfl rfl ?_
  refine z_iload C1 dL_law_2722 (i := 4) rfl ?_
  refine z_iconst C1 dL_law_2724 (v := 3) (by decide) ?_
  refine z_iadd C1 dL_law_2725 ?_
  refine t_sld C1 X1 dL_law_2726 x3.1 ?_
  rw [x3.2]
  refine t_callV C1 (rest := []) (c2 := cells + 30) (s2 := slots + 8828) (kd := 100) (i := 0) [.int a1, .int a2, .int a3] dL_law_2727 lk_L_272 li_X12_joined le_X12_joined (c_X12_joined hfl hw) rfl rfl (by decide) rfl ⟨_, rfl⟩ rfl ⟨Nat.le_of_ble_eq_true rfl, Nat.le_of_ble_eq_true rfl⟩ (Nat.le_of_ble_eq_true rfl) ⟨Nat.le_refl _, Nat.le_refl _, hc, hs⟩ (k_Wi fun b s2 hb => ?_)
  refine z_istore C1 dL_law_2730 (lc' := [some (.ref 208), some (.ref 10), some (.ref 100), some (.ref 9), some (.int i), some (.int kc), some (.int b), none]) (by decide) rfl ?_
  refine z_aload_n C1 dL_law_2732 (i := 2) rfl rfl ?_
  refine t_callV C1 (rest := []) (c2 := cells + 30) (s2 := slots + 8828) (kd := 100) (i := 0) [] dL_law_2733 lk_L_156 li_X12_thrown le_X12_thrown (c_X12_thrown hfl (P := fun r => r = kc) hb.1) rfl rfl (by decide) rfl ⟨_, rfl⟩ rfl ⟨Nat.le_of_ble_eq_true rfl, Nat.le_of_ble_eq_true rfl⟩ (Nat.le_of_ble_eq_true rfl) ⟨Nat.le_refl _, Nat.le_refl _, hc, hs⟩ (k_Ri fun t ht => ?_)
  refine z_iload C1 dL_law_2736 (i := 5) rfl ?_
  refine z_icmp_eq C1 dL_law_2738 (tgt := 2743) (by decide) (fun _ => ?_) (fun z => absurd ht z)
  refine z_iload C1 dL_law_2743 (i := 5) rfl ?_
  refine z_if_ne C1 dL_law_2745 (tgt := 2760) (by decide) (fun _ => ?_) (fun k0 => ?_)
  · refine z_goto C1 dL_law_2760 (tgt := 3262) (by decide) ?_
    exact t_drop [true, true, true, true, true, false, false, false] rfl (zG_y x (hK x s2 hb.2.2))
  · refine z_aload_n C1 dL_law_2748 (i := 3) rfl rfl ?_
    refine z_iconst C1 dL_law_2749 (v := 0) (by decide) ?_
    refine t_jld C1 dL_law_2750 rfl ?_
    refine z_iload C1 dL_law_2751 (i := 6) rfl ?_
    refine z_i2l C1 dL_law_2753 ?_
    refine z_lcmp C1 dL_law_2754 ?_
    refine z_if_eq C1 dL_law_2755 (tgt := 2760) (by decide) (fun _ => ?_) (fun z => absurd (by rw [hb.2.1 k0]; exact zcmp0 (hx k0)) z)
    refine z_goto C1 dL_law_2760 (tgt := 3262) (by decide) ?_
    exact t_drop [true, true, true, true, true, false, false, false] rfl (zG_y x (hK x s2 hb.2.2))
set_option maxHeartbeats 4000000 in
set_option maxRecDepth 100000 in
theorem law_36 {Z : zZ} {p : Program} {l : Launch} {e : Env} {s : State} {m : MethodId} {args : Array Value} {below : List Frame} {meth : Method} {c : Code} {ad0 : Nat → Nat} {h0 : zH} {Q : State → Prop} {L : Nat} {xs : Nat → Int32} {st : zTs} {i : Int32} {cells slots : Nat} {a1 : Int32} {a2 : Int32} {a3 : Int32} (hfl : l.stackTraces = false) (C : zC Z p s m args meth c cL_law 8 RL) (X : zSx Z s L xs) (h : qR st) (x1 : vp_in (i + 1) L ∧ xs (i + 1).toNatClampNeg = a1) (x2 : vp_in (i + 2) L ∧ xs (i + 2).toNatClampNeg = a2) (x3 : vp_in (i + 3) L ∧ xs (i + 3).toNatClampNeg = a3) (hc : cells + 30 ≤ room_1.cells) (hs : slots + 8828 ≤ room_1.slots) (hK : ∀ x st1, qR st1 → zG Z ad0 h0 p l e room_1 s m args below meth c Q (cells + 30) (slots + 8828) (zh (zZx Z x) zm1 st1) 8 3262 [some (.ref 208), some (.ref 10), some (.ref 100), some (.ref 9), some (.int i), none, none, none] []) : zG Z ad0 h0 p l e room_1 s m args below meth c Q cells slots (zh Z zm1 st) 8 2763 [some (.ref 208), some (.ref 10), some (.ref 100), some (.ref 9), some (.int i), none, none, none] [] := by
  refine z_aload_n C dL_law_2763 (i := 1) rfl rfl ?_
  refine z_aload_n C dL_law_2764 (i := 0) rfl rfl ?_
  refine z_iload C dL_law_2765 (i := 4) rfl ?_
  refine z_iconst C dL_law_2767 (v := 1) (by decide) ?_
  refine z_iadd C dL_law_2768 ?_
  refine t_sld C X dL_law_2769 x1.1 ?_
  rw [x1.2]
  refine z_aload_n C dL_law_2770 (i := 0) rfl rfl ?_
  refine z_iload C dL_law_2771 (i := 4) rfl ?_
  refine z_iconst C dL_law_2773 (v := 2) (by decide) ?_
  refine z_iadd C dL_law_2774 ?_
  refine t_sld C X dL_law_2775 x2.1 ?_
  rw [x2.2]
  refine z_aload_n C dL_law_2776 (i := 0) rfl rfl ?_
  refine z_iload C dL_law_2777 (i := 4) rfl ?_
  refine z_iconst C dL_law_2779 (v := 3) (by decide) ?_
  refine z_iadd C dL_law_2780 ?_
  refine t_sld C X dL_law_2781 x3.1 ?_
  rw [x3.2]
  refine z_aload_n C dL_law_2782 (i := 3) rfl rfl ?_
  refine t_callSO C (rest := []) (c2 := cells + 30) (s2 := slots + 8828) [.ref 10, .int a1, .int a2, .int a3, .ref 9] dL_law_2783 lw_L_pair (c_L_pair hfl (P1 := fun kc x s9 => ∃ r : Int32, (kc = 0 → x = zjn r.toInt64) ∧ w_X12_pair s9 a1 a2 a3 (zOK kc r)) (b_pair h) (fun k9 s9 hx => by obtain ⟨rfl, hx⟩ := hx; exact ⟨rfl, fun _ => ⟨0, fun z => absurd z (by decide), hx⟩⟩) (fun r s9 hp => ⟨r, fun _ => rfl, hp⟩)) rfl rfl ⟨Nat.le_of_ble_eq_true rfl, Nat.le_of_ble_eq_true rfl⟩ (Nat.le_of_ble_eq_true rfl) ⟨Nat.add_le_add_left (Nat.le_of_ble_eq_true rfl) _, Nat.add_le_add_left (Nat.le_of_ble_eq_true rfl) _, hc, hs⟩ (k_Wx fun kc x s9 hp => ?_)
  obtain ⟨r, hx, hw⟩ := hp
  have C1 := zC_x C x
  have X1 : zSx (zZx Z x) s L xs := X
  refine z_istore C1 dL_law_2786 (lc' := [some (.ref 208), some (.ref 10), some (.ref 100), some (.ref 9), some (.int i), some (.int kc), none, none]) (by decide) rfl ?_
  refine z_aload_n C1 dL_law_2788 (i := 2) rfl rfl ?_
  refine z_aload_n C1 dL_law_2789 (i := 0) rfl rfl ?_
  refine z_iload C1 dL_law_2790 (i := 4) rfl ?_
  refine z_iconst C1 dL_law_2792 (v := 1) (by decide) ?_
  refine z_iadd C1 dL_law_2793 ?_
  refine t_sld C1 X1 dL_law_2794 x1.1 ?_
  rw [x1.2]
  refine z_aload_n C1 dL_law_2795 (i := 0) rfl rfl ?_
  refine z_iload C1 dL_law_2796 (i := 4) rfl ?_
  refine z_iconst C1 dL_law_2798 (v := 2) (by decide) ?_
  refine z_iadd C1 dL_law_2799 ?_
  refine t_sld C1 X1 dL_law_2800 x2.1 ?_
  rw [x2.2]
  refine z_aload_n C1 dL_law_2801 (i := 0) rfl rfl ?_
  refine z_iload C1 dL_law_2802 (i := 4) rfl ?_
  refine z_iconst C1 dL_law_2804 (v := 3) (by decide) ?_
  refine z_iadd C1 dL_law_2805 ?_
  refine t_sld C1 X1 dL_law_2806 x3.1 ?_
  rw [x3.2]
  refine t_callV C1 (rest := []) (c2 := cells + 30) (s2 := slots + 8828) (kd := 100) (i := 0) [.int a1, .int a2, .int a3] dL_law_2807 lk_L_275 li_X12_pair le_X12_pair (c_X12_pair hfl hw) rfl rfl (by decide) rfl ⟨_, rfl⟩ rfl ⟨Nat.le_of_ble_eq_true rfl, Nat.le_of_ble_eq_true rfl⟩ (Nat.le_of_ble_eq_true rfl) ⟨Nat.le_refl _, Nat.le_refl _, hc, hs⟩ (k_Wi fun b s2 hb => ?_)
  refine z_istore C1 dL_law_2810 (lc' := [some (.ref 208), some (.ref 10), some (.ref 100), some (.ref 9), some (.int i), some (.int kc), some (.int b), none]) (by decide) rfl ?_
  refine z_aload_n C1 dL_law_2812 (i := 2) rfl rfl ?_
  refine t_callV C1 (rest := []) (c2 := cells + 30) (s2 := slots + 8828) (kd := 100) (i := 0) [] dL_law_2813 lk_L_156 li_X12_thrown le_X12_thrown (c_X12_thrown hfl (P := fun r => r = kc) hb.1) rfl rfl (by decide) rfl ⟨_, rfl⟩ rfl ⟨Nat.le_of_ble_eq_true rfl, Nat.le_of_ble_eq_true rfl⟩ (Nat.le_of_ble_eq_true rfl) ⟨Nat.le_refl _, Nat.le_refl _, hc, hs⟩ (k_Ri fun t ht => ?_)
  refine z_iload C1 dL_law_2816 (i := 5) rfl ?_
  refine z_icmp_eq C1 dL_law_2818 (tgt := 2823) (by decide) (fun _ => ?_) (fun z => absurd ht z)
  refine z_iload C1 dL_law_2823 (i := 5) rfl ?_
  refine z_if_ne C1 dL_law_2825 (tgt := 2840) (by decide) (fun _ => ?_) (fun k0 => ?_)
  · refine z_goto C1 dL_law_2840 (tgt := 3262) (by decide) ?_
    exact t_drop [true, true, true, true, true, false, false, false] rfl (zG_y x (hK x s2 hb.2.2))
  · refine z_aload_n C1 dL_law_2828 (i := 3) rfl rfl ?_
    refine z_iconst C1 dL_law_2829 (v := 0) (by decide) ?_
    refine t_jld C1 dL_law_2830 rfl ?_
    refine z_iload C1 dL_law_2831 (i := 6) rfl ?_
    refine z_i2l C1 dL_law_2833 ?_
    refine z_lcmp C1 dL_law_2834 ?_
    refine z_if_eq C1 dL_law_2835 (tgt := 2840) (by decide) (fun _ => ?_) (fun z => absurd (by rw [hb.2.1 k0]; exact zcmp0 (hx k0)) z)
    refine z_goto C1 dL_law_2840 (tgt := 3262) (by decide) ?_
    exact t_drop [true, true, true, true, true, false, false, false] rfl (zG_y x (hK x s2 hb.2.2))
set_option maxHeartbeats 4000000 in
set_option maxRecDepth 100000 in
theorem law_37 {Z : zZ} {p : Program} {l : Launch} {e : Env} {s : State} {m : MethodId} {args : Array Value} {below : List Frame} {meth : Method} {c : Code} {ad0 : Nat → Nat} {h0 : zH} {Q : State → Prop} {L : Nat} {xs : Nat → Int32} {st : zTs} {i : Int32} {cells slots : Nat} (hfl : l.stackTraces = false) (C : zC Z p s m args meth c cL_law 8 RL) (X : zSx Z s L xs) (h : qR st) (hc : cells + 30 ≤ room_1.cells) (hs : slots + 8828 ≤ room_1.slots) (hK : ∀ x st1, qR st1 → zG Z ad0 h0 p l e room_1 s m args below meth c Q (cells + 30) (slots + 8828) (zh (zZx Z x) zm1 st1) 8 3262 [some (.ref 208), some (.ref 10), some (.ref 100), some (.ref 9), some (.int i), none, none, none] []) : zG Z ad0 h0 p l e room_1 s m args below meth c Q cells slots (zh Z zm1 st) 8 2843 [some (.ref 208), some (.ref 10), some (.ref 100), some (.ref 9), some (.int i), none, none, none] [] := by
  refine z_aload_n C dL_law_2843 (i := 1) rfl rfl ?_
  refine z_aload_n C dL_law_2844 (i := 3) rfl rfl ?_
  refine t_callSO C (rest := []) (c2 := cells + 30) (s2 := slots + 8828) [.ref 10, .ref 9] dL_law_2845 lw_L_gauge (c_L_gauge hfl (P1 := fun kc x s9 => ∃ r : Int32, (kc = 0 → x = zjn r.toInt64) ∧ w_X12_gauge s9 (zOK kc r)) (b_gauge h) (fun k9 s9 hx => by obtain ⟨rfl, hx⟩ := hx; exact ⟨rfl, fun _ => ⟨0, fun z => absurd z (by decide), hx⟩⟩) (fun r s9 hp => ⟨r, fun _ => rfl, hp⟩)) rfl rfl ⟨Nat.le_of_ble_eq_true rfl, Nat.le_of_ble_eq_true rfl⟩ (Nat.le_of_ble_eq_true rfl) ⟨Nat.add_le_add_left (Nat.le_of_ble_eq_true rfl) _, Nat.add_le_add_left (Nat.le_of_ble_eq_true rfl) _, hc, hs⟩ (k_Wx fun kc x s9 hp => ?_)
  obtain ⟨r, hx, hw⟩ := hp
  have C1 := zC_x C x
  have X1 : zSx (zZx Z x) s L xs := X
  refine z_istore C1 dL_law_2848 (lc' := [some (.ref 208), some (.ref 10), some (.ref 100), some (.ref 9), some (.int i), some (.int kc), none, none]) (by decide) rfl ?_
  refine z_aload_n C1 dL_law_2850 (i := 2) rfl rfl ?_
  refine t_callV C1 (rest := []) (c2 := cells + 30) (s2 := slots + 8828) (kd := 100) (i := 0) [] dL_law_2851 lk_L_278 li_X12_gauge le_X12_gauge (c_X12_gauge hfl hw) rfl rfl (by decide) rfl ⟨_, rfl⟩ rfl ⟨Nat.le_of_ble_eq_true rfl, Nat.le_of_ble_eq_true rfl⟩ (Nat.le_of_ble_eq_true rfl) ⟨Nat.le_refl _, Nat.le_refl _, hc, hs⟩ (k_Wi fun b s2 hb => ?_)
  refine z_istore C1 dL_law_2854 (lc' := [some (.ref 208), some (.ref 10), some (.ref 100), some (.ref 9), some (.int i), some (.int kc), some (.int b), none]) (by decide) rfl ?_
  refine z_aload_n C1 dL_law_2856 (i := 2) rfl rfl ?_
  refine t_callV C1 (rest := []) (c2 := cells + 30) (s2 := slots + 8828) (kd := 100) (i := 0) [] dL_law_2857 lk_L_156 li_X12_thrown le_X12_thrown (c_X12_thrown hfl (P := fun r => r = kc) hb.1) rfl rfl (by decide) rfl ⟨_, rfl⟩ rfl ⟨Nat.le_of_ble_eq_true rfl, Nat.le_of_ble_eq_true rfl⟩ (Nat.le_of_ble_eq_true rfl) ⟨Nat.le_refl _, Nat.le_refl _, hc, hs⟩ (k_Ri fun t ht => ?_)
  refine z_iload C1 dL_law_2860 (i := 5) rfl ?_
  refine z_icmp_eq C1 dL_law_2862 (tgt := 2867) (by decide) (fun _ => ?_) (fun z => absurd ht z)
  refine z_iload C1 dL_law_2867 (i := 5) rfl ?_
  refine z_if_ne C1 dL_law_2869 (tgt := 2884) (by decide) (fun _ => ?_) (fun k0 => ?_)
  · refine z_goto C1 dL_law_2884 (tgt := 3262) (by decide) ?_
    exact t_drop [true, true, true, true, true, false, false, false] rfl (zG_y x (hK x s2 hb.2.2))
  · refine z_aload_n C1 dL_law_2872 (i := 3) rfl rfl ?_
    refine z_iconst C1 dL_law_2873 (v := 0) (by decide) ?_
    refine t_jld C1 dL_law_2874 rfl ?_
    refine z_iload C1 dL_law_2875 (i := 6) rfl ?_
    refine z_i2l C1 dL_law_2877 ?_
    refine z_lcmp C1 dL_law_2878 ?_
    refine z_if_eq C1 dL_law_2879 (tgt := 2884) (by decide) (fun _ => ?_) (fun z => absurd (by rw [hb.2.1 k0]; exact zcmp0 (hx k0)) z)
    refine z_goto C1 dL_law_2884 (tgt := 3262) (by decide) ?_
    exact t_drop [true, true, true, true, true, false, false, false] rfl (zG_y x (hK x s2 hb.2.2))
set_option maxHeartbeats 4000000 in
set_option maxRecDepth 100000 in
theorem law_38 {Z : zZ} {p : Program} {l : Launch} {e : Env} {s : State} {m : MethodId} {args : Array Value} {below : List Frame} {meth : Method} {c : Code} {ad0 : Nat → Nat} {h0 : zH} {Q : State → Prop} {L : Nat} {xs : Nat → Int32} {st : zTs} {i : Int32} {cells slots : Nat} {a1 : Int32} {a2 : Int32} {a3 : Int32} (hfl : l.stackTraces = false) (C : zC Z p s m args meth c cL_law 8 RL) (X : zSx Z s L xs) (h : qR st) (x1 : vp_in (i + 1) L ∧ xs (i + 1).toNatClampNeg = a1) (x2 : vp_in (i + 2) L ∧ xs (i + 2).toNatClampNeg = a2) (x3 : vp_in (i + 3) L ∧ xs (i + 3).toNatClampNeg = a3) (hc : cells + 30 ≤ room_1.cells) (hs : slots + 8828 ≤ room_1.slots) (hK : ∀ x st1, qR st1 → zG Z ad0 h0 p l e room_1 s m args below meth c Q (cells + 30) (slots + 8828) (zh (zZx Z x) zm1 st1) 8 3262 [some (.ref 208), some (.ref 10), some (.ref 100), some (.ref 9), some (.int i), none, none, none] []) : zG Z ad0 h0 p l e room_1 s m args below meth c Q cells slots (zh Z zm1 st) 8 2887 [some (.ref 208), some (.ref 10), some (.ref 100), some (.ref 9), some (.int i), none, none, none] [] := by
  refine z_aload_n C dL_law_2887 (i := 1) rfl rfl ?_
  refine z_aload_n C dL_law_2888 (i := 0) rfl rfl ?_
  refine z_iload C dL_law_2889 (i := 4) rfl ?_
  refine z_iconst C dL_law_2891 (v := 1) (by decide) ?_
  refine z_iadd C dL_law_2892 ?_
  refine t_sld C X dL_law_2893 x1.1 ?_
  rw [x1.2]
  refine z_aload_n C dL_law_2894 (i := 0) rfl rfl ?_
  refine z_iload C dL_law_2895 (i := 4) rfl ?_
  refine z_iconst C dL_law_2897 (v := 2) (by decide) ?_
  refine z_iadd C dL_law_2898 ?_
  refine t_sld C X dL_law_2899 x2.1 ?_
  rw [x2.2]
  refine z_aload_n C dL_law_2900 (i := 0) rfl rfl ?_
  refine z_iload C dL_law_2901 (i := 4) rfl ?_
  refine z_iconst C dL_law_2903 (v := 3) (by decide) ?_
  refine z_iadd C dL_law_2904 ?_
  refine t_sld C X dL_law_2905 x3.1 ?_
  rw [x3.2]
  refine z_aload_n C dL_law_2906 (i := 3) rfl rfl ?_
  refine t_callSO C (rest := []) (c2 := cells + 30) (s2 := slots + 8828) [.ref 10, .int a1, .int a2, .int a3, .ref 9] dL_law_2907 lw_L_read (c_L_read hfl (P1 := fun kc x s9 => ∃ r : Int32, (kc = 0 → x = zjn r.toInt64) ∧ w_X12_read s9 a1 a2 a3 (zOK kc r)) (b_read h) (fun k9 s9 hx => by rcases hx with ⟨rfl, hx⟩ | ⟨rfl, hx⟩ <;> first | exact Or.inl ⟨rfl, fun _ => ⟨0, fun z => absurd z (by decide), hx⟩⟩ | exact Or.inr (⟨rfl, fun _ => ⟨0, fun z => absurd z (by decide), hx⟩⟩)) (fun r s9 hp => ⟨r, fun _ => rfl, hp⟩)) rfl rfl ⟨Nat.le_of_ble_eq_true rfl, Nat.le_of_ble_eq_true rfl⟩ (Nat.le_of_ble_eq_true rfl) ⟨Nat.add_le_add_left (Nat.le_of_ble_eq_true rfl) _, Nat.add_le_add_left (Nat.le_of_ble_eq_true rfl) _, hc, hs⟩ (k_Wx fun kc x s9 hp => ?_)
  obtain ⟨r, hx, hw⟩ := hp
  have C1 := zC_x C x
  have X1 : zSx (zZx Z x) s L xs := X
  refine z_istore C1 dL_law_2910 (lc' := [some (.ref 208), some (.ref 10), some (.ref 100), some (.ref 9), some (.int i), some (.int kc), none, none]) (by decide) rfl ?_
  refine z_aload_n C1 dL_law_2912 (i := 2) rfl rfl ?_
  refine z_aload_n C1 dL_law_2913 (i := 0) rfl rfl ?_
  refine z_iload C1 dL_law_2914 (i := 4) rfl ?_
  refine z_iconst C1 dL_law_2916 (v := 1) (by decide) ?_
  refine z_iadd C1 dL_law_2917 ?_
  refine t_sld C1 X1 dL_law_2918 x1.1 ?_
  rw [x1.2]
  refine z_aload_n C1 dL_law_2919 (i := 0) rfl rfl ?_
  refine z_iload C1 dL_law_2920 (i := 4) rfl ?_
  refine z_iconst C1 dL_law_2922 (v := 2) (by decide) ?_
  refine z_iadd C1 dL_law_2923 ?_
  refine t_sld C1 X1 dL_law_2924 x2.1 ?_
  rw [x2.2]
  refine z_aload_n C1 dL_law_2925 (i := 0) rfl rfl ?_
  refine z_iload C1 dL_law_2926 (i := 4) rfl ?_
  refine z_iconst C1 dL_law_2928 (v := 3) (by decide) ?_
  refine z_iadd C1 dL_law_2929 ?_
  refine t_sld C1 X1 dL_law_2930 x3.1 ?_
  rw [x3.2]
  refine t_callV C1 (rest := []) (c2 := cells + 30) (s2 := slots + 8828) (kd := 100) (i := 0) [.int a1, .int a2, .int a3] dL_law_2931 lk_L_281 li_X12_read le_X12_read (c_X12_read hfl hw) rfl rfl (by decide) rfl ⟨_, rfl⟩ rfl ⟨Nat.le_of_ble_eq_true rfl, Nat.le_of_ble_eq_true rfl⟩ (Nat.le_of_ble_eq_true rfl) ⟨Nat.le_refl _, Nat.le_refl _, hc, hs⟩ (k_Wi fun b s2 hb => ?_)
  refine z_istore C1 dL_law_2934 (lc' := [some (.ref 208), some (.ref 10), some (.ref 100), some (.ref 9), some (.int i), some (.int kc), some (.int b), none]) (by decide) rfl ?_
  refine z_aload_n C1 dL_law_2936 (i := 2) rfl rfl ?_
  refine t_callV C1 (rest := []) (c2 := cells + 30) (s2 := slots + 8828) (kd := 100) (i := 0) [] dL_law_2937 lk_L_156 li_X12_thrown le_X12_thrown (c_X12_thrown hfl (P := fun r => r = kc) hb.1) rfl rfl (by decide) rfl ⟨_, rfl⟩ rfl ⟨Nat.le_of_ble_eq_true rfl, Nat.le_of_ble_eq_true rfl⟩ (Nat.le_of_ble_eq_true rfl) ⟨Nat.le_refl _, Nat.le_refl _, hc, hs⟩ (k_Ri fun t ht => ?_)
  refine z_iload C1 dL_law_2940 (i := 5) rfl ?_
  refine z_icmp_eq C1 dL_law_2942 (tgt := 2947) (by decide) (fun _ => ?_) (fun z => absurd ht z)
  refine z_iload C1 dL_law_2947 (i := 5) rfl ?_
  refine z_if_ne C1 dL_law_2949 (tgt := 2964) (by decide) (fun _ => ?_) (fun k0 => ?_)
  · refine z_goto C1 dL_law_2964 (tgt := 3262) (by decide) ?_
    exact t_drop [true, true, true, true, true, false, false, false] rfl (zG_y x (hK x s2 hb.2.2))
  · refine z_aload_n C1 dL_law_2952 (i := 3) rfl rfl ?_
    refine z_iconst C1 dL_law_2953 (v := 0) (by decide) ?_
    refine t_jld C1 dL_law_2954 rfl ?_
    refine z_iload C1 dL_law_2955 (i := 6) rfl ?_
    refine z_i2l C1 dL_law_2957 ?_
    refine z_lcmp C1 dL_law_2958 ?_
    refine z_if_eq C1 dL_law_2959 (tgt := 2964) (by decide) (fun _ => ?_) (fun z => absurd (by rw [hb.2.1 k0]; exact zcmp0 (hx k0)) z)
    refine z_goto C1 dL_law_2964 (tgt := 3262) (by decide) ?_
    exact t_drop [true, true, true, true, true, false, false, false] rfl (zG_y x (hK x s2 hb.2.2))
set_option maxHeartbeats 4000000 in
set_option maxRecDepth 100000 in
theorem law_39 {Z : zZ} {p : Program} {l : Launch} {e : Env} {s : State} {m : MethodId} {args : Array Value} {below : List Frame} {meth : Method} {c : Code} {ad0 : Nat → Nat} {h0 : zH} {Q : State → Prop} {L : Nat} {xs : Nat → Int32} {st : zTs} {i : Int32} {cells slots : Nat} {a1 : Int32} {a2 : Int32} (hfl : l.stackTraces = false) (C : zC Z p s m args meth c cL_law 8 RL) (X : zSx Z s L xs) (h : qR st) (x1 : vp_in (i + 1) L ∧ xs (i + 1).toNatClampNeg = a1) (x2 : vp_in (i + 2) L ∧ xs (i + 2).toNatClampNeg = a2) (hc : cells + 30 ≤ room_1.cells) (hs : slots + 8828 ≤ room_1.slots) (hK : ∀ x st1, qR st1 → zG Z ad0 h0 p l e room_1 s m args below meth c Q (cells + 30) (slots + 8828) (zh (zZx Z x) zm1 st1) 8 3262 [some (.ref 208), some (.ref 10), some (.ref 100), some (.ref 9), some (.int i), none, none, none] []) : zG Z ad0 h0 p l e room_1 s m args below meth c Q cells slots (zh Z zm1 st) 8 2967 [some (.ref 208), some (.ref 10), some (.ref 100), some (.ref 9), some (.int i), none, none, none] [] := by
  refine z_aload_n C dL_law_2967 (i := 1) rfl rfl ?_
  refine z_aload_n C dL_law_2968 (i := 0) rfl rfl ?_
  refine z_iload C dL_law_2969 (i := 4) rfl ?_
  refine z_iconst C dL_law_2971 (v := 1) (by decide) ?_
  refine z_iadd C dL_law_2972 ?_
  refine t_sld C X dL_law_2973 x1.1 ?_
  rw [x1.2]
  refine z_aload_n C dL_law_2974 (i := 0) rfl rfl ?_
  refine z_iload C dL_law_2975 (i := 4) rfl ?_
  refine z_iconst C dL_law_2977 (v := 2) (by decide) ?_
  refine z_iadd C dL_law_2978 ?_
  refine t_sld C X dL_law_2979 x2.1 ?_
  rw [x2.2]
  refine z_aload_n C dL_law_2980 (i := 3) rfl rfl ?_
  refine t_callSO C (rest := []) (c2 := cells + 30) (s2 := slots + 8828) [.ref 10, .int a1, .int a2, .ref 9] dL_law_2981 lw_L_at (c_L_at hfl (P1 := fun kc x s9 => ∃ r : Int32, (kc = 0 → x = zjn r.toInt64) ∧ w_X12_at s9 a1 a2 (zOK kc r)) (b_at h) (fun k9 hx => by obtain ⟨rfl, hx⟩ := hx; exact ⟨rfl, fun _ => ⟨0, fun z => absurd z (by decide), hx⟩⟩) (fun r hp => ⟨r, fun _ => rfl, hp⟩)) rfl rfl ⟨Nat.le_of_ble_eq_true rfl, Nat.le_of_ble_eq_true rfl⟩ (Nat.le_of_ble_eq_true rfl) ⟨Nat.add_le_add_left (Nat.le_of_ble_eq_true rfl) _, Nat.add_le_add_left (Nat.le_of_ble_eq_true rfl) _, hc, hs⟩ (k_Wx fun kc x s9 hp => ?_)
  obtain ⟨r, hx, hw⟩ := hp
  have C1 := zC_x C x
  have X1 : zSx (zZx Z x) s L xs := X
  refine z_istore C1 dL_law_2984 (lc' := [some (.ref 208), some (.ref 10), some (.ref 100), some (.ref 9), some (.int i), some (.int kc), none, none]) (by decide) rfl ?_
  refine z_aload_n C1 dL_law_2986 (i := 2) rfl rfl ?_
  refine z_aload_n C1 dL_law_2987 (i := 0) rfl rfl ?_
  refine z_iload C1 dL_law_2988 (i := 4) rfl ?_
  refine z_iconst C1 dL_law_2990 (v := 1) (by decide) ?_
  refine z_iadd C1 dL_law_2991 ?_
  refine t_sld C1 X1 dL_law_2992 x1.1 ?_
  rw [x1.2]
  refine z_aload_n C1 dL_law_2993 (i := 0) rfl rfl ?_
  refine z_iload C1 dL_law_2994 (i := 4) rfl ?_
  refine z_iconst C1 dL_law_2996 (v := 2) (by decide) ?_
  refine z_iadd C1 dL_law_2997 ?_
  refine t_sld C1 X1 dL_law_2998 x2.1 ?_
  rw [x2.2]
  refine t_callV C1 (rest := []) (c2 := cells + 30) (s2 := slots + 8828) (kd := 100) (i := 0) [.int a1, .int a2] dL_law_2999 lk_L_284 li_X12_at le_X12_at (c_X12_at hfl hw) rfl rfl (by decide) rfl ⟨_, rfl⟩ rfl ⟨Nat.le_of_ble_eq_true rfl, Nat.le_of_ble_eq_true rfl⟩ (Nat.le_of_ble_eq_true rfl) ⟨Nat.le_refl _, Nat.le_refl _, hc, hs⟩ (k_Wi fun b s2 hb => ?_)
  refine z_istore C1 dL_law_3002 (lc' := [some (.ref 208), some (.ref 10), some (.ref 100), some (.ref 9), some (.int i), some (.int kc), some (.int b), none]) (by decide) rfl ?_
  refine z_aload_n C1 dL_law_3004 (i := 2) rfl rfl ?_
  refine t_callV C1 (rest := []) (c2 := cells + 30) (s2 := slots + 8828) (kd := 100) (i := 0) [] dL_law_3005 lk_L_156 li_X12_thrown le_X12_thrown (c_X12_thrown hfl (P := fun r => r = kc) hb.1) rfl rfl (by decide) rfl ⟨_, rfl⟩ rfl ⟨Nat.le_of_ble_eq_true rfl, Nat.le_of_ble_eq_true rfl⟩ (Nat.le_of_ble_eq_true rfl) ⟨Nat.le_refl _, Nat.le_refl _, hc, hs⟩ (k_Ri fun t ht => ?_)
  refine z_iload C1 dL_law_3008 (i := 5) rfl ?_
  refine z_icmp_eq C1 dL_law_3010 (tgt := 3015) (by decide) (fun _ => ?_) (fun z => absurd ht z)
  refine z_iload C1 dL_law_3015 (i := 5) rfl ?_
  refine z_if_ne C1 dL_law_3017 (tgt := 3032) (by decide) (fun _ => ?_) (fun k0 => ?_)
  · refine z_goto C1 dL_law_3032 (tgt := 3262) (by decide) ?_
    exact t_drop [true, true, true, true, true, false, false, false] rfl (zG_y x (hK x s2 hb.2.2))
  · refine z_aload_n C1 dL_law_3020 (i := 3) rfl rfl ?_
    refine z_iconst C1 dL_law_3021 (v := 0) (by decide) ?_
    refine t_jld C1 dL_law_3022 rfl ?_
    refine z_iload C1 dL_law_3023 (i := 6) rfl ?_
    refine z_i2l C1 dL_law_3025 ?_
    refine z_lcmp C1 dL_law_3026 ?_
    refine z_if_eq C1 dL_law_3027 (tgt := 3032) (by decide) (fun _ => ?_) (fun z => absurd (by rw [hb.2.1 k0]; exact zcmp0 (hx k0)) z)
    refine z_goto C1 dL_law_3032 (tgt := 3262) (by decide) ?_
    exact t_drop [true, true, true, true, true, false, false, false] rfl (zG_y x (hK x s2 hb.2.2))
set_option maxHeartbeats 4000000 in
set_option maxRecDepth 100000 in
theorem law_40 {Z : zZ} {p : Program} {l : Launch} {e : Env} {s : State} {m : MethodId} {args : Array Value} {below : List Frame} {meth : Method} {c : Code} {ad0 : Nat → Nat} {h0 : zH} {Q : State → Prop} {L : Nat} {xs : Nat → Int32} {st : zTs} {i : Int32} {cells slots : Nat} {a1 : Int32} {a2 : Int32} {a3 : Int32} {a4 : Int32} {a5 : Int32} (hfl : l.stackTraces = false) (C : zC Z p s m args meth c cL_law 8 RL) (X : zSx Z s L xs) (h : qR st) (x1 : vp_in (i + 1) L ∧ xs (i + 1).toNatClampNeg = a1) (x2 : vp_in (i + 2) L ∧ xs (i + 2).toNatClampNeg = a2) (x3 : vp_in (i + 3) L ∧ xs (i + 3).toNatClampNeg = a3) (x4 : vp_in (i + 4) L ∧ xs (i + 4).toNatClampNeg = a4) (x5 : vp_in (i + 5) L ∧ xs (i + 5).toNatClampNeg = a5) (hc : cells + 30 ≤ room_1.cells) (hs : slots + 8828 ≤ room_1.slots) (hK : ∀ x st1, qR st1 → zG Z ad0 h0 p l e room_1 s m args below meth c Q (cells + 30) (slots + 8828) (zh (zZx Z x) zm1 st1) 8 3262 [some (.ref 208), some (.ref 10), some (.ref 100), some (.ref 9), some (.int i), none, none, none] []) : zG Z ad0 h0 p l e room_1 s m args below meth c Q cells slots (zh Z zm1 st) 8 3035 [some (.ref 208), some (.ref 10), some (.ref 100), some (.ref 9), some (.int i), none, none, none] [] := by
  refine z_aload_n C dL_law_3035 (i := 1) rfl rfl ?_
  refine z_aload_n C dL_law_3036 (i := 0) rfl rfl ?_
  refine z_iload C dL_law_3037 (i := 4) rfl ?_
  refine z_iconst C dL_law_3039 (v := 1) (by decide) ?_
  refine z_iadd C dL_law_3040 ?_
  refine t_sld C X dL_law_3041 x1.1 ?_
  rw [x1.2]
  refine z_aload_n C dL_law_3042 (i := 0) rfl rfl ?_
  refine z_iload C dL_law_3043 (i := 4) rfl ?_
  refine z_iconst C dL_law_3045 (v := 2) (by decide) ?_
  refine z_iadd C dL_law_3046 ?_
  refine t_sld C X dL_law_3047 x2.1 ?_
  rw [x2.2]
  refine z_aload_n C dL_law_3048 (i := 0) rfl rfl ?_
  refine z_iload C dL_law_3049 (i := 4) rfl ?_
  refine z_iconst C dL_law_3051 (v := 3) (by decide) ?_
  refine z_iadd C dL_law_3052 ?_
  refine t_sld C X dL_law_3053 x3.1 ?_
  rw [x3.2]
  refine z_aload_n C dL_law_3054 (i := 0) rfl rfl ?_
  refine z_iload C dL_law_3055 (i := 4) rfl ?_
  refine z_iconst C dL_law_3057 (v := 4) (by decide) ?_
  refine z_iadd C dL_law_3058 ?_
  refine t_sld C X dL_law_3059 x4.1 ?_
  rw [x4.2]
  refine z_aload_n C dL_law_3060 (i := 0) rfl rfl ?_
  refine z_iload C dL_law_3061 (i := 4) rfl ?_
  refine z_iconst C dL_law_3063 (v := 5) (by decide) ?_
  refine z_iadd C dL_law_3064 ?_
  refine t_sld C X dL_law_3065 x5.1 ?_
  rw [x5.2]
  refine z_aload_n C dL_law_3066 (i := 3) rfl rfl ?_
  refine t_callSO C (rest := []) (c2 := cells + 30) (s2 := slots + 8828) [.ref 10, .int a1, .int a2, .int a3, .int a4, .int a5, .ref 9] dL_law_3067 lw_L_cause (c_L_cause hfl (P1 := fun kc x s9 => ∃ r : Int64, (kc = 0 → x = zjn r) ∧ w_X12_cause s9 a1 a2 a3 a4 a5 (zOKJ kc r)) (b_cause h) (fun k9 s9 hx => by rcases hx with ⟨rfl, hx⟩ | ⟨rfl, hx⟩ <;> first | exact Or.inl ⟨rfl, fun _ => ⟨0, fun z => absurd z (by decide), hx⟩⟩ | exact Or.inr (⟨rfl, fun _ => ⟨0, fun z => absurd z (by decide), hx⟩⟩)) (fun r s9 hp => ⟨r, fun _ => rfl, hp⟩)) rfl rfl ⟨Nat.le_of_ble_eq_true rfl, Nat.le_of_ble_eq_true rfl⟩ (Nat.le_of_ble_eq_true rfl) ⟨Nat.add_le_add_left (Nat.le_of_ble_eq_true rfl) _, Nat.add_le_add_left (Nat.le_of_ble_eq_true rfl) _, hc, hs⟩ (k_Wx fun kc x s9 hp => ?_)
  obtain ⟨r, hx, hw⟩ := hp
  have C1 := zC_x C x
  have X1 : zSx (zZx Z x) s L xs := X
  refine z_istore C1 dL_law_3070 (lc' := [some (.ref 208), some (.ref 10), some (.ref 100), some (.ref 9), some (.int i), some (.int kc), none, none]) (by decide) rfl ?_
  refine z_aload_n C1 dL_law_3072 (i := 2) rfl rfl ?_
  refine z_aload_n C1 dL_law_3073 (i := 0) rfl rfl ?_
  refine z_iload C1 dL_law_3074 (i := 4) rfl ?_
  refine z_iconst C1 dL_law_3076 (v := 1) (by decide) ?_
  refine z_iadd C1 dL_law_3077 ?_
  refine t_sld C1 X1 dL_law_3078 x1.1 ?_
  rw [x1.2]
  refine z_aload_n C1 dL_law_3079 (i := 0) rfl rfl ?_
  refine z_iload C1 dL_law_3080 (i := 4) rfl ?_
  refine z_iconst C1 dL_law_3082 (v := 2) (by decide) ?_
  refine z_iadd C1 dL_law_3083 ?_
  refine t_sld C1 X1 dL_law_3084 x2.1 ?_
  rw [x2.2]
  refine z_aload_n C1 dL_law_3085 (i := 0) rfl rfl ?_
  refine z_iload C1 dL_law_3086 (i := 4) rfl ?_
  refine z_iconst C1 dL_law_3088 (v := 3) (by decide) ?_
  refine z_iadd C1 dL_law_3089 ?_
  refine t_sld C1 X1 dL_law_3090 x3.1 ?_
  rw [x3.2]
  refine z_aload_n C1 dL_law_3091 (i := 0) rfl rfl ?_
  refine z_iload C1 dL_law_3092 (i := 4) rfl ?_
  refine z_iconst C1 dL_law_3094 (v := 4) (by decide) ?_
  refine z_iadd C1 dL_law_3095 ?_
  refine t_sld C1 X1 dL_law_3096 x4.1 ?_
  rw [x4.2]
  refine z_aload_n C1 dL_law_3097 (i := 0) rfl rfl ?_
  refine z_iload C1 dL_law_3098 (i := 4) rfl ?_
  refine z_iconst C1 dL_law_3100 (v := 5) (by decide) ?_
  refine z_iadd C1 dL_law_3101 ?_
  refine t_sld C1 X1 dL_law_3102 x5.1 ?_
  rw [x5.2]
  refine t_callV C1 (rest := []) (c2 := cells + 30) (s2 := slots + 8828) (kd := 100) (i := 0) [.int a1, .int a2, .int a3, .int a4, .int a5] dL_law_3103 lk_L_287 li_X12_cause le_X12_cause (c_X12_cause hfl hw) rfl rfl (by decide) rfl ⟨_, rfl⟩ rfl ⟨Nat.le_of_ble_eq_true rfl, Nat.le_of_ble_eq_true rfl⟩ (Nat.le_of_ble_eq_true rfl) ⟨Nat.le_refl _, Nat.le_refl _, hc, hs⟩ (k_Wl fun b s2 hb => ?_)
  refine z_lstore C1 dL_law_3106 (lc' := [some (.ref 208), some (.ref 10), some (.ref 100), some (.ref 9), some (.int i), some (.int kc), some (.long (b)), none]) (by decide) rfl ?_
  refine z_aload_n C1 dL_law_3108 (i := 2) rfl rfl ?_
  refine t_callV C1 (rest := []) (c2 := cells + 30) (s2 := slots + 8828) (kd := 100) (i := 0) [] dL_law_3109 lk_L_156 li_X12_thrown le_X12_thrown (c_X12_thrown hfl (P := fun r => r = kc) hb.1) rfl rfl (by decide) rfl ⟨_, rfl⟩ rfl ⟨Nat.le_of_ble_eq_true rfl, Nat.le_of_ble_eq_true rfl⟩ (Nat.le_of_ble_eq_true rfl) ⟨Nat.le_refl _, Nat.le_refl _, hc, hs⟩ (k_Ri fun t ht => ?_)
  refine z_iload C1 dL_law_3112 (i := 5) rfl ?_
  refine z_icmp_eq C1 dL_law_3114 (tgt := 3119) (by decide) (fun _ => ?_) (fun z => absurd ht z)
  refine z_iload C1 dL_law_3119 (i := 5) rfl ?_
  refine z_if_ne C1 dL_law_3121 (tgt := 3135) (by decide) (fun _ => ?_) (fun k0 => ?_)
  · refine z_goto C1 dL_law_3135 (tgt := 3262) (by decide) ?_
    exact t_drop [true, true, true, true, true, false, false, false] rfl (zG_y x (hK x s2 hb.2.2))
  · refine z_aload_n C1 dL_law_3124 (i := 3) rfl rfl ?_
    refine z_iconst C1 dL_law_3125 (v := 0) (by decide) ?_
    refine t_jld C1 dL_law_3126 rfl ?_
    refine z_lload C1 dL_law_3127 (i := 6) rfl ?_
    refine z_lcmp C1 dL_law_3129 ?_
    refine z_if_eq C1 dL_law_3130 (tgt := 3135) (by decide) (fun _ => ?_) (fun z => absurd (by rw [hb.2.1 k0]; exact zcmp0 (hx k0)) z)
    refine z_goto C1 dL_law_3135 (tgt := 3262) (by decide) ?_
    exact t_drop [true, true, true, true, true, false, false, false] rfl (zG_y x (hK x s2 hb.2.2))
set_option maxHeartbeats 4000000 in
set_option maxRecDepth 100000 in
theorem law_41 {Z : zZ} {p : Program} {l : Launch} {e : Env} {s : State} {m : MethodId} {args : Array Value} {below : List Frame} {meth : Method} {c : Code} {ad0 : Nat → Nat} {h0 : zH} {Q : State → Prop} {L : Nat} {xs : Nat → Int32} {st : zTs} {i : Int32} {cells slots : Nat} {a1 : Int32} {a2 : Int32} {a3 : Int32} {a4 : Int32} (hfl : l.stackTraces = false) (C : zC Z p s m args meth c cL_law 8 RL) (X : zSx Z s L xs) (h : qR st) (x1 : vp_in (i + 1) L ∧ xs (i + 1).toNatClampNeg = a1) (x2 : vp_in (i + 2) L ∧ xs (i + 2).toNatClampNeg = a2) (x3 : vp_in (i + 3) L ∧ xs (i + 3).toNatClampNeg = a3) (x4 : vp_in (i + 4) L ∧ xs (i + 4).toNatClampNeg = a4) (hc : cells + 30 ≤ room_1.cells) (hs : slots + 8828 ≤ room_1.slots) (hK : ∀ x st1, qR st1 → zG Z ad0 h0 p l e room_1 s m args below meth c Q (cells + 30) (slots + 8828) (zh (zZx Z x) zm1 st1) 8 3262 [some (.ref 208), some (.ref 10), some (.ref 100), some (.ref 9), some (.int i), none, none, none] []) : zG Z ad0 h0 p l e room_1 s m args below meth c Q cells slots (zh Z zm1 st) 8 3138 [some (.ref 208), some (.ref 10), some (.ref 100), some (.ref 9), some (.int i), none, none, none] [] := by
  refine z_aload_n C dL_law_3138 (i := 1) rfl rfl ?_
  refine z_aload_n C dL_law_3139 (i := 0) rfl rfl ?_
  refine z_iload C dL_law_3140 (i := 4) rfl ?_
  refine z_iconst C dL_law_3142 (v := 1) (by decide) ?_
  refine z_iadd C dL_law_3143 ?_
  refine t_sld C X dL_law_3144 x1.1 ?_
  rw [x1.2]
  refine z_aload_n C dL_law_3145 (i := 0) rfl rfl ?_
  refine z_iload C dL_law_3146 (i := 4) rfl ?_
  refine z_iconst C dL_law_3148 (v := 2) (by decide) ?_
  refine z_iadd C dL_law_3149 ?_
  refine t_sld C X dL_law_3150 x2.1 ?_
  rw [x2.2]
  refine z_aload_n C dL_law_3151 (i := 0) rfl rfl ?_
  refine z_iload C dL_law_3152 (i := 4) rfl ?_
  refine z_iconst C dL_law_3154 (v := 3) (by decide) ?_
  refine z_iadd C dL_law_3155 ?_
  refine t_sld C X dL_law_3156 x3.1 ?_
  rw [x3.2]
  refine z_aload_n C dL_law_3157 (i := 0) rfl rfl ?_
  refine z_iload C dL_law_3158 (i := 4) rfl ?_
  refine z_iconst C dL_law_3160 (v := 4) (by decide) ?_
  refine z_iadd C dL_law_3161 ?_
  refine t_sld C X dL_law_3162 x4.1 ?_
  rw [x4.2]
  refine z_aload_n C dL_law_3163 (i := 3) rfl rfl ?_
  refine t_callSO C (rest := []) (c2 := cells + 30) (s2 := slots + 8828) [.ref 10, .int a1, .int a2, .int a3, .int a4, .ref 9] dL_law_3164 lw_L_blamed (c_L_blamed hfl (P1 := fun kc x s9 => ∃ r : Int32, (kc = 0 → x = zjn (if r = 0 then 0 else 1)) ∧ w_X12_blamed s9 a1 a2 a3 a4 (zOK kc r)) (b_blamed h) (fun k9 s9 hx => by obtain ⟨rfl, hx⟩ := hx; exact ⟨rfl, fun _ => ⟨0, fun z => absurd z (by decide), hx⟩⟩) (fun r s9 hp => ⟨r, fun _ => rfl, hp⟩)) rfl rfl ⟨Nat.le_of_ble_eq_true rfl, Nat.le_of_ble_eq_true rfl⟩ (Nat.le_of_ble_eq_true rfl) ⟨Nat.add_le_add_left (Nat.le_of_ble_eq_true rfl) _, Nat.add_le_add_left (Nat.le_of_ble_eq_true rfl) _, hc, hs⟩ (k_Wx fun kc x s9 hp => ?_)
  obtain ⟨r, hx, hw⟩ := hp
  have C1 := zC_x C x
  have X1 : zSx (zZx Z x) s L xs := X
  refine z_istore C1 dL_law_3167 (lc' := [some (.ref 208), some (.ref 10), some (.ref 100), some (.ref 9), some (.int i), some (.int kc), none, none]) (by decide) rfl ?_
  refine z_aload_n C1 dL_law_3169 (i := 2) rfl rfl ?_
  refine z_aload_n C1 dL_law_3170 (i := 0) rfl rfl ?_
  refine z_iload C1 dL_law_3171 (i := 4) rfl ?_
  refine z_iconst C1 dL_law_3173 (v := 1) (by decide) ?_
  refine z_iadd C1 dL_law_3174 ?_
  refine t_sld C1 X1 dL_law_3175 x1.1 ?_
  rw [x1.2]
  refine z_aload_n C1 dL_law_3176 (i := 0) rfl rfl ?_
  refine z_iload C1 dL_law_3177 (i := 4) rfl ?_
  refine z_iconst C1 dL_law_3179 (v := 2) (by decide) ?_
  refine z_iadd C1 dL_law_3180 ?_
  refine t_sld C1 X1 dL_law_3181 x2.1 ?_
  rw [x2.2]
  refine z_aload_n C1 dL_law_3182 (i := 0) rfl rfl ?_
  refine z_iload C1 dL_law_3183 (i := 4) rfl ?_
  refine z_iconst C1 dL_law_3185 (v := 3) (by decide) ?_
  refine z_iadd C1 dL_law_3186 ?_
  refine t_sld C1 X1 dL_law_3187 x3.1 ?_
  rw [x3.2]
  refine z_aload_n C1 dL_law_3188 (i := 0) rfl rfl ?_
  refine z_iload C1 dL_law_3189 (i := 4) rfl ?_
  refine z_iconst C1 dL_law_3191 (v := 4) (by decide) ?_
  refine z_iadd C1 dL_law_3192 ?_
  refine t_sld C1 X1 dL_law_3193 x4.1 ?_
  rw [x4.2]
  refine t_callV C1 (rest := []) (c2 := cells + 30) (s2 := slots + 8828) (kd := 100) (i := 0) [.int a1, .int a2, .int a3, .int a4] dL_law_3194 lk_L_290 li_X12_blamed le_X12_blamed (c_X12_blamed hfl hw) rfl rfl (by decide) rfl ⟨_, rfl⟩ rfl ⟨Nat.le_of_ble_eq_true rfl, Nat.le_of_ble_eq_true rfl⟩ (Nat.le_of_ble_eq_true rfl) ⟨Nat.le_refl _, Nat.le_refl _, hc, hs⟩ (k_Wi fun b s2 hb => ?_)
  refine z_istore C1 dL_law_3197 (lc' := [some (.ref 208), some (.ref 10), some (.ref 100), some (.ref 9), some (.int i), some (.int kc), some (.int b), none]) (by decide) rfl ?_
  refine z_aload_n C1 dL_law_3199 (i := 2) rfl rfl ?_
  refine t_callV C1 (rest := []) (c2 := cells + 30) (s2 := slots + 8828) (kd := 100) (i := 0) [] dL_law_3200 lk_L_156 li_X12_thrown le_X12_thrown (c_X12_thrown hfl (P := fun r => r = kc) hb.1) rfl rfl (by decide) rfl ⟨_, rfl⟩ rfl ⟨Nat.le_of_ble_eq_true rfl, Nat.le_of_ble_eq_true rfl⟩ (Nat.le_of_ble_eq_true rfl) ⟨Nat.le_refl _, Nat.le_refl _, hc, hs⟩ (k_Ri fun t ht => ?_)
  refine z_iload C1 dL_law_3203 (i := 5) rfl ?_
  refine z_icmp_eq C1 dL_law_3205 (tgt := 3210) (by decide) (fun _ => ?_) (fun z => absurd ht z)
  refine z_iload C1 dL_law_3210 (i := 5) rfl ?_
  refine z_if_ne C1 dL_law_3212 (tgt := 3234) (by decide) (fun _ => ?_) (fun k0 => ?_)
  · refine z_goto C1 dL_law_3234 (tgt := 3262) (by decide) ?_
    exact t_drop [true, true, true, true, true, false, false, false] rfl (zG_y x (hK x s2 hb.2.2))
  · refine z_aload_n C1 dL_law_3215 (i := 3) rfl rfl ?_
    refine z_iconst C1 dL_law_3216 (v := 0) (by decide) ?_
    refine t_jld C1 dL_law_3217 rfl ?_
    refine z_iload C1 dL_law_3218 (i := 6) rfl ?_
    refine z_if_eq C1 dL_law_3220 (tgt := 3227) (by decide) (fun b0 => ?_) (fun b0 => ?_)
    · refine z_lconst C1 dL_law_3227 (v := 0) (by decide) ?_
      refine z_lcmp C1 dL_law_3228 ?_
      refine z_if_eq C1 dL_law_3229 (tgt := 3234) (by decide) (fun _ => ?_) (fun z => absurd (zcmp0 ((hx k0).trans (by rw [← hb.2.1 k0, if_pos b0]))) z)
      refine z_goto C1 dL_law_3234 (tgt := 3262) (by decide) ?_
      exact t_drop [true, true, true, true, true, false, false, false] rfl (zG_y x (hK x s2 hb.2.2))
    · refine z_lconst C1 dL_law_3223 (v := 1) (by decide) ?_
      refine z_goto C1 dL_law_3224 (tgt := 3228) (by decide) ?_
      refine z_lcmp C1 dL_law_3228 ?_
      refine z_if_eq C1 dL_law_3229 (tgt := 3234) (by decide) (fun _ => ?_) (fun z => absurd (zcmp0 ((hx k0).trans (by rw [← hb.2.1 k0, if_neg b0]))) z)
      refine z_goto C1 dL_law_3234 (tgt := 3262) (by decide) ?_
      exact t_drop [true, true, true, true, true, false, false, false] rfl (zG_y x (hK x s2 hb.2.2))
set_option maxHeartbeats 4000000 in
set_option maxRecDepth 100000 in
theorem law_42 {Z : zZ} {p : Program} {l : Launch} {e : Env} {s : State} {m : MethodId} {args : Array Value} {below : List Frame} {meth : Method} {c : Code} {ad0 : Nat → Nat} {h0 : zH} {Q : State → Prop} {L : Nat} {xs : Nat → Int32} {st : zTs} {i : Int32} {cells slots : Nat} {a1 : Int32} (hfl : l.stackTraces = false) (C : zC Z p s m args meth c cL_law 8 RL) (X : zSx Z s L xs) (h : qR st) (x1 : vp_in (i + 1) L ∧ xs (i + 1).toNatClampNeg = a1) (hc : cells + 30 ≤ room_1.cells) (hs : slots + 8828 ≤ room_1.slots) (hK : ∀ x st1, qR st1 → zG Z ad0 h0 p l e room_1 s m args below meth c Q (cells + 30) (slots + 8828) (zh (zZx Z x) zm1 st1) 8 3262 [some (.ref 208), some (.ref 10), some (.ref 100), some (.ref 9), some (.int i), none, none, none] []) : zG Z ad0 h0 p l e room_1 s m args below meth c Q cells slots (zh Z zm1 st) 8 3237 [some (.ref 208), some (.ref 10), some (.ref 100), some (.ref 9), some (.int i), none, none, none] [] := by
  refine z_aload_n C dL_law_3237 (i := 1) rfl rfl ?_
  refine z_aload_n C dL_law_3238 (i := 0) rfl rfl ?_
  refine z_iload C dL_law_3239 (i := 4) rfl ?_
  refine z_iconst C dL_law_3241 (v := 1) (by decide) ?_
  refine z_iadd C dL_law_3242 ?_
  refine t_sld C X dL_law_3243 x1.1 ?_
  rw [x1.2]
  refine t_callV C (rest := []) (c2 := cells + 30) (s2 := slots + 8828) (kd := 10) (i := 0) [.int a1] dL_law_3244 lk_L_291 li_X11_count le_X11_count (c_X11_count hfl (b_count h)) rfl rfl (by decide) rfl ⟨_, rfl⟩ rfl ⟨Nat.le_of_ble_eq_true rfl, Nat.le_of_ble_eq_true rfl⟩ (Nat.le_of_ble_eq_true rfl) ⟨Nat.add_le_add_left (Nat.le_of_ble_eq_true rfl) _, Nat.add_le_add_left (Nat.le_of_ble_eq_true rfl) _, hc, hs⟩ (k_Ri fun r hw => ?_)
  refine z_aload_n C dL_law_3247 (i := 2) rfl rfl ?_
  refine z_aload_n C dL_law_3248 (i := 0) rfl rfl ?_
  refine z_iload C dL_law_3249 (i := 4) rfl ?_
  refine z_iconst C dL_law_3251 (v := 1) (by decide) ?_
  refine z_iadd C dL_law_3252 ?_
  refine t_sld C X dL_law_3253 x1.1 ?_
  rw [x1.2]
  refine t_callV C (rest := [.int r]) (c2 := cells + 30) (s2 := slots + 8828) (kd := 100) (i := 0) [.int a1] dL_law_3254 lk_L_294 li_X12_count le_X12_count (c_X12_count hfl hw) rfl rfl (by decide) rfl ⟨_, rfl⟩ rfl ⟨Nat.le_of_ble_eq_true rfl, Nat.le_of_ble_eq_true rfl⟩ (Nat.le_of_ble_eq_true rfl) ⟨Nat.le_refl _, Nat.le_refl _, hc, hs⟩ (k_Wi fun b s2 hb => ?_)
  refine z_icmp_eq C dL_law_3257 (tgt := 3262) (by decide) (fun _ => ?_) (fun z => absurd (hb.2.1 rfl).symm z)
  have hk := hK (Z.2.1 9) s2 hb.2.2
  rw [zZx_self] at hk
  exact t_drop [true, true, true, true, true, false, false, false] rfl hk
