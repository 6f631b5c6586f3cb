/-! the law, case by case -/
theorem lw_c4 {ρ h : am_H} {Lx : Nat} {xs : Int → Int} {A L S K i : Int} {Q : am_Q} (hi : 0 ≤ i ∧ i + 6 ≤ (Lx : Int)) (hLx : Lx ≤ 3072) (hJ : lw_J ρ h A L S K) (kk : ∀ ρ h A L S K, lw_J ρ h A L S K → am_WP (mL_law Lx xs) (lw_pc L K) (lw_ps L K) 1096 [some (am_R (-1)), some (am_R 1), some (am_R 38), some (am_I i)] [] ρ h Q) : am_WP (mL_law Lx xs) (lw_pc L K) (lw_ps L K) 302 [some (am_R (-1)), some (am_R 1), some (am_R 38), some (am_I i)] [] ρ h Q := by
  have hC := hJ.1.2.1.1
  have hM := hJ.1.2.1.2.1
  have hn58 := hC.1
  obtain ⟨mc, ms, bc9, bs9, hb, b1, b2, b3⟩ := lw_bud1 (h := h) (L := L) (K := K) (N := (mt_pw (h 11 0) (h 11 1).toNat)) (g := (0 ≤ (xs (i + 1)) ∧ (xs (i + 1)) < h 11 1) ∧ (0 ≤ lw_t (xs (i + 2)) (xs (i + 3)) ∧ lw_t (xs (i + 2)) (xs (i + 3)) ≤ 1000000000000000000)) (fun z => (lw_cnt hJ (by have := z.1; omega)).1) (fun z => (lw_cnt hJ (by have := z.1; omega)).2)
  refine am_WPle b1 b2 ?_
  refine am_aload_n (pc' := 303) dL_law_302 rfl rfl rfl ?_
  refine am_aload_n (pc' := 304) dL_law_303 rfl rfl rfl ?_
  refine am_iload_n (pc' := 305) dL_law_304 rfl rfl rfl ?_
  refine am_iconst (pc' := 306) dL_law_305 rfl rfl ?_
  refine am_iadd (pc' := 307) dL_law_306 rfl ⟨by omega, by omega⟩ ?_
  refine am_sld (pc' := 308) rfl dL_law_307 rfl (by omega) (by omega) ?_
  refine am_aload_n (pc' := 309) dL_law_308 rfl rfl rfl ?_
  refine am_iload_n (pc' := 310) dL_law_309 rfl rfl rfl ?_
  refine am_iconst (pc' := 311) dL_law_310 rfl rfl ?_
  refine am_iadd (pc' := 312) dL_law_311 rfl ⟨by omega, by omega⟩ ?_
  refine am_sld (pc' := 313) rfl dL_law_312 rfl (by omega) (by omega) ?_
  refine am_i2l (pc' := 314) dL_law_313 rfl ?_
  refine am_bipush (pc' := 316) dL_law_314 rfl rfl (by decide) ?_
  refine am_lshl (pc' := 317) dL_law_316 rfl ?_
  refine am_aload_n (pc' := 318) dL_law_317 rfl rfl rfl ?_
  refine am_iload_n (pc' := 319) dL_law_318 rfl rfl rfl ?_
  refine am_iconst (pc' := 320) dL_law_319 rfl rfl ?_
  refine am_iadd (pc' := 321) dL_law_320 rfl ⟨by omega, by omega⟩ ?_
  refine am_sld (pc' := 322) rfl dL_law_321 rfl (by omega) (by omega) ?_
  refine am_i2l (pc' := 323) dL_law_322 rfl ?_
  refine am_ldc2 (pc' := 326) (x := 4294967295) dL_law_323 rfl kl_L_32 rfl rfl ?_
  refine am_land (pc' := 327) dL_law_326 rfl ?_
  refine am_lor (pc' := 328) dL_law_327 rfl ?_
  refine am_callVg (pc' := 331) (as := [_, _]) (ci := 6) (mc := mc) (bc := bc9) (ms := ms) (bs := bs9) rfl dL_law_328 rfl ok_X7_after ml_L_34 im_X7_after se_X7_after rfl (Nat.le_of_ble_eq_true rfl) rfl (Nat.le_of_ble_eq_true rfl) (by first | assumption | exact ⟨by omega, by omega, rfl⟩) (t_after (t := lw_t (xs (i + 2)) (xs (i + 3))) hJ.1 hb) (fun r_328 ρ_328 h_328 q_328 g_328 e_328 => ?_)
  obtain ⟨qT, v, rfl, hv⟩ := q_328
  obtain ⟨A1, L1, i1, i2, i3⟩ := id qT
  have f38 : ∀ x j, 38 ≤ x → x ≤ 57 → h_328 x j = h x j := fun x j z0 z1 => i2 x j (by omega)
  have m := lw_keepM hJ f38
  have md := lw_md hJ.1.1 m
  have hM1 := i1.2.1.2.1
  have hn1 := hM1.1
  refine am_aload_n (pc' := 332) dL_law_331 rfl rfl rfl ?_
  refine am_aload_n (pc' := 333) dL_law_332 rfl rfl rfl ?_
  refine am_iload_n (pc' := 334) dL_law_333 rfl rfl rfl ?_
  refine am_iconst (pc' := 335) dL_law_334 rfl rfl ?_
  refine am_iadd (pc' := 336) dL_law_335 rfl ⟨by omega, by omega⟩ ?_
  refine am_sld (pc' := 337) rfl dL_law_336 rfl (by omega) (by omega) ?_
  refine am_aload_n (pc' := 338) dL_law_337 rfl rfl rfl ?_
  refine am_iload_n (pc' := 339) dL_law_338 rfl rfl rfl ?_
  refine am_iconst (pc' := 340) dL_law_339 rfl rfl ?_
  refine am_iadd (pc' := 341) dL_law_340 rfl ⟨by omega, by omega⟩ ?_
  refine am_sld (pc' := 342) rfl dL_law_341 rfl (by omega) (by omega) ?_
  refine am_i2l (pc' := 343) dL_law_342 rfl ?_
  refine am_bipush (pc' := 345) dL_law_343 rfl rfl (by decide) ?_
  refine am_lshl (pc' := 346) dL_law_345 rfl ?_
  refine am_aload_n (pc' := 347) dL_law_346 rfl rfl rfl ?_
  refine am_iload_n (pc' := 348) dL_law_347 rfl rfl rfl ?_
  refine am_iconst (pc' := 349) dL_law_348 rfl rfl ?_
  refine am_iadd (pc' := 350) dL_law_349 rfl ⟨by omega, by omega⟩ ?_
  refine am_sld (pc' := 351) rfl dL_law_350 rfl (by omega) (by omega) ?_
  refine am_i2l (pc' := 352) dL_law_351 rfl ?_
  refine am_ldc2 (pc' := 355) (x := 4294967295) dL_law_352 rfl kl_L_32 rfl rfl ?_
  refine am_land (pc' := 356) dL_law_355 rfl ?_
  refine am_lor (pc' := 357) dL_law_356 rfl ?_
  refine am_callV0 (pc' := 360) (as := [_, _]) (ci := 7)  rfl dL_law_357 rfl ok_X8_after ml_L_38 im_X8_after se_X8_after rfl (Nat.le_of_ble_eq_true rfl) rfl (Nat.le_of_ble_eq_true rfl) (by first | assumption | exact ⟨by omega, by omega, rfl⟩) (t8_after (t := lw_t (xs (i + 2)) (xs (i + 3))) hM1 md.1) (fun r_357 ρ_357 h_357 q_357 g_357 e_357 => ?_)
  obtain ⟨rfl, f2, v', rfl, hv'⟩ := q_357
  rw [m.1.1, m.1.2.1, lw_nx m, lw_row m] at hv'
  have e := o_g2_uniq hv hv' (fun _ _ z z' => o_after_uniq z z')
  obtain ⟨A2, L2, J2, p1, p2⟩ := jt_T hJ qT f2 b3
  refine am_icmp_eq (pc' := 363) (tgt := 1096) dL_law_360 rfl rfl (fun _ => ?_) (fun c => absurd e c)
  exact am_WPle p1 p2 (kk _ _ _ _ _ _ J2)
theorem lw_c5 {ρ h : am_H} {Lx : Nat} {xs : Int → Int} {A L S K i : Int} {Q : am_Q} (hi : 0 ≤ i ∧ i + 6 ≤ (Lx : Int)) (hLx : Lx ≤ 3072) (hJ : lw_J ρ h A L S K) (kk : ∀ ρ h A L S K, lw_J ρ h A L S K → am_WP (mL_law Lx xs) (lw_pc L K) (lw_ps L K) 1096 [some (am_R (-1)), some (am_R 1), some (am_R 38), some (am_I i)] [] ρ h Q) : am_WP (mL_law Lx xs) (lw_pc L K) (lw_ps L K) 365 [some (am_R (-1)), some (am_R 1), some (am_R 38), some (am_I i)] [] ρ h Q := by
  have hC := hJ.1.2.1.1
  have hM := hJ.1.2.1.2.1
  have hn58 := hC.1
  obtain ⟨mc, ms, bc9, bs9, hb, b1, b2, b3⟩ := lw_bud1 (h := h) (L := L) (K := K) (N := (mt_pw (h 11 0) (h 11 1).toNat)) (g := o_dayG (h 11 1) (h 11 0) (xs (i + 1)) (xs (i + 2)) (xs (i + 4)) (xs (i + 5)) (o_fl h (xs (i + 1)) (xs (i + 2)) (xs (i + 3)) (2 * (xs (i + 4)))) (o_c h (xs (i + 1)) (xs (i + 3)))) (fun z => (lw_cnt hJ z.2.2.1).1) (fun z => (lw_cnt hJ z.2.2.1).2)
  refine am_WPle b1 b2 ?_
  refine am_aload_n (pc' := 366) dL_law_365 rfl rfl rfl ?_
  refine am_aload_n (pc' := 367) dL_law_366 rfl rfl rfl ?_
  refine am_iload_n (pc' := 368) dL_law_367 rfl rfl rfl ?_
  refine am_iconst (pc' := 369) dL_law_368 rfl rfl ?_
  refine am_iadd (pc' := 370) dL_law_369 rfl ⟨by omega, by omega⟩ ?_
  refine am_sld (pc' := 371) rfl dL_law_370 rfl (by omega) (by omega) ?_
  refine am_aload_n (pc' := 372) dL_law_371 rfl rfl rfl ?_
  refine am_iload_n (pc' := 373) dL_law_372 rfl rfl rfl ?_
  refine am_iconst (pc' := 374) dL_law_373 rfl rfl ?_
  refine am_iadd (pc' := 375) dL_law_374 rfl ⟨by omega, by omega⟩ ?_
  refine am_sld (pc' := 376) rfl dL_law_375 rfl (by omega) (by omega) ?_
  refine am_aload_n (pc' := 377) dL_law_376 rfl rfl rfl ?_
  refine am_iload_n (pc' := 378) dL_law_377 rfl rfl rfl ?_
  refine am_iconst (pc' := 379) dL_law_378 rfl rfl ?_
  refine am_iadd (pc' := 380) dL_law_379 rfl ⟨by omega, by omega⟩ ?_
  refine am_sld (pc' := 381) rfl dL_law_380 rfl (by omega) (by omega) ?_
  refine am_aload_n (pc' := 382) dL_law_381 rfl rfl rfl ?_
  refine am_iload_n (pc' := 383) dL_law_382 rfl rfl rfl ?_
  refine am_iconst (pc' := 384) dL_law_383 rfl rfl ?_
  refine am_iadd (pc' := 385) dL_law_384 rfl ⟨by omega, by omega⟩ ?_
  refine am_sld (pc' := 386) rfl dL_law_385 rfl (by omega) (by omega) ?_
  refine am_aload_n (pc' := 387) dL_law_386 rfl rfl rfl ?_
  refine am_iload_n (pc' := 388) dL_law_387 rfl rfl rfl ?_
  refine am_iconst (pc' := 389) dL_law_388 rfl rfl ?_
  refine am_iadd (pc' := 390) dL_law_389 rfl ⟨by omega, by omega⟩ ?_
  refine am_sld (pc' := 391) rfl dL_law_390 rfl (by omega) (by omega) ?_
  refine am_callVg (pc' := 394) (as := [_, _, _, _, _]) (ci := 6) (mc := mc) (bc := bc9) (ms := ms) (bs := bs9) rfl dL_law_391 rfl ok_X7_day ml_L_39 im_X7_day se_X7_day rfl (Nat.le_of_ble_eq_true rfl) rfl (Nat.le_of_ble_eq_true rfl) (by first | assumption | exact ⟨by omega, by omega, rfl⟩) (t_day hJ.1 hb) (fun r_391 ρ_391 h_391 q_391 g_391 e_391 => ?_)
  obtain ⟨v, f, rfl, qT, o1⟩ := q_391
  obtain ⟨A1, L1, i1, i2, i3, i4⟩ := id qT
  have f38 : ∀ x j, 38 ≤ x → x ≤ 57 → h_391 x j = h x j := fun x j z0 z1 => i2 x j (by omega) (by omega)
  have m := lw_keepM hJ f38
  have md := lw_md hJ.1.1 m
  have hM1 := i1.2.1.2.1
  have hn1 := hM1.1
  refine am_aload_n (pc' := 395) dL_law_394 rfl rfl rfl ?_
  refine am_aload_n (pc' := 396) dL_law_395 rfl rfl rfl ?_
  refine am_iload_n (pc' := 397) dL_law_396 rfl rfl rfl ?_
  refine am_iconst (pc' := 398) dL_law_397 rfl rfl ?_
  refine am_iadd (pc' := 399) dL_law_398 rfl ⟨by omega, by omega⟩ ?_
  refine am_sld (pc' := 400) rfl dL_law_399 rfl (by omega) (by omega) ?_
  refine am_aload_n (pc' := 401) dL_law_400 rfl rfl rfl ?_
  refine am_iload_n (pc' := 402) dL_law_401 rfl rfl rfl ?_
  refine am_iconst (pc' := 403) dL_law_402 rfl rfl ?_
  refine am_iadd (pc' := 404) dL_law_403 rfl ⟨by omega, by omega⟩ ?_
  refine am_sld (pc' := 405) rfl dL_law_404 rfl (by omega) (by omega) ?_
  refine am_aload_n (pc' := 406) dL_law_405 rfl rfl rfl ?_
  refine am_iload_n (pc' := 407) dL_law_406 rfl rfl rfl ?_
  refine am_iconst (pc' := 408) dL_law_407 rfl rfl ?_
  refine am_iadd (pc' := 409) dL_law_408 rfl ⟨by omega, by omega⟩ ?_
  refine am_sld (pc' := 410) rfl dL_law_409 rfl (by omega) (by omega) ?_
  refine am_aload_n (pc' := 411) dL_law_410 rfl rfl rfl ?_
  refine am_iload_n (pc' := 412) dL_law_411 rfl rfl rfl ?_
  refine am_iconst (pc' := 413) dL_law_412 rfl rfl ?_
  refine am_iadd (pc' := 414) dL_law_413 rfl ⟨by omega, by omega⟩ ?_
  refine am_sld (pc' := 415) rfl dL_law_414 rfl (by omega) (by omega) ?_
  refine am_aload_n (pc' := 416) dL_law_415 rfl rfl rfl ?_
  refine am_iload_n (pc' := 417) dL_law_416 rfl rfl rfl ?_
  refine am_iconst (pc' := 418) dL_law_417 rfl rfl ?_
  refine am_iadd (pc' := 419) dL_law_418 rfl ⟨by omega, by omega⟩ ?_
  refine am_sld (pc' := 420) rfl dL_law_419 rfl (by omega) (by omega) ?_
  refine am_callV0 (pc' := 423) (as := [_, _, _, _, _]) (ci := 7)  rfl dL_law_420 rfl ok_X8_day ml_L_43 im_X8_day se_X8_day rfl (Nat.le_of_ble_eq_true rfl) rfl (Nat.le_of_ble_eq_true rfl) (by first | assumption | exact ⟨by omega, by omega, rfl⟩) (t8_day hM1 md.1 md.2.2) (fun r_420 ρ_420 h_420 q_420 g_420 e_420 => ?_)
  obtain ⟨rfl, v', f', rfl, f2, o2⟩ := q_420
  rw [m.1.1, m.1.2.1, lw_nx m] at o2
  have o3 : o_day (h 11 1) (h 11 0) (o_nx h) (h_391 39) (h_391 40) (xs (i + 1)) (xs (i + 2)) (xs (i + 4)) (xs (i + 5)) (o_fl h (xs (i + 1)) (xs (i + 2)) (xs (i + 3)) (2 * (xs (i + 4)))) (md_c h_391 (xs (i + 1)) (xs (i + 3))) v' f' := by
    by_cases hk : 0 ≤ (xs (i + 1)) ∧ (xs (i + 1)) < 4
    · rw [lw_fl m hk] at o2; exact o2
    · exact o_day_fl hk o2
  obtain ⟨e, ef⟩ := o_day_uniq (fun z => by have := lw_P02 hJ.1.1; omega) (fun p p0 p1 => (m.2.1 p p0 p1).1.symm) (fun p p0 p1 => (m.2.1 p p0 p1).2.symm) (fun z y t t0 t1 => (lw_cells m y z t t0 t1).symm) o1 o3
  rw [← ef] at f2
  obtain ⟨A2, L2, J2, p1, p2⟩ := jt_Tf hJ qT f2 b3
  refine am_icmp_eq (pc' := 426) (tgt := 1096) dL_law_423 rfl rfl (fun _ => ?_) (fun c => absurd e c)
  exact am_WPle p1 p2 (kk _ _ _ _ _ _ J2)
theorem lw_c6 {ρ h : am_H} {Lx : Nat} {xs : Int → Int} {A L S K i : Int} {Q : am_Q} (hi : 0 ≤ i ∧ i + 6 ≤ (Lx : Int)) (hLx : Lx ≤ 3072) (hJ : lw_J ρ h A L S K) (kk : ∀ ρ h A L S K, lw_J ρ h A L S K → am_WP (mL_law Lx xs) (lw_pc L K) (lw_ps L K) 1096 [some (am_R (-1)), some (am_R 1), some (am_R 38), some (am_I i)] [] ρ h Q) : am_WP (mL_law Lx xs) (lw_pc L K) (lw_ps L K) 428 [some (am_R (-1)), some (am_R 1), some (am_R 38), some (am_I i)] [] ρ h Q := by
  have hC := hJ.1.2.1.1
  have hM := hJ.1.2.1.2.1
  have hn58 := hC.1
  obtain ⟨mc, ms, bc9, bs9, hb, b1, b2, b3⟩ := lw_bud1 (h := h) (L := L) (K := K) (N := (mt_pw (h 11 0) (h 11 1).toNat)) (g := (0 ≤ (xs (i + 1)) ∧ (xs (i + 1)) ≤ 2) ∧ h 11 1 ≠ 0) (fun z => (lw_cnt hJ z.2).1) (fun z => (lw_cnt hJ z.2).2)
  refine am_WPle b1 b2 ?_
  refine am_aload_n (pc' := 429) dL_law_428 rfl rfl rfl ?_
  refine am_aload_n (pc' := 430) dL_law_429 rfl rfl rfl ?_
  refine am_iload_n (pc' := 431) dL_law_430 rfl rfl rfl ?_
  refine am_iconst (pc' := 432) dL_law_431 rfl rfl ?_
  refine am_iadd (pc' := 433) dL_law_432 rfl ⟨by omega, by omega⟩ ?_
  refine am_sld (pc' := 434) rfl dL_law_433 rfl (by omega) (by omega) ?_
  refine am_callVg (pc' := 437) (as := [_]) (ci := 6) (mc := mc) (bc := bc9) (ms := ms) (bs := bs9) rfl dL_law_434 rfl ok_X7_now ml_L_44 im_X7_now se_X7_now rfl (Nat.le_of_ble_eq_true rfl) rfl (Nat.le_of_ble_eq_true rfl) (by first | assumption | exact ⟨by omega, by omega, rfl⟩) (t_now hJ.1 hb) (fun r_434 ρ_434 h_434 q_434 g_434 e_434 => ?_)
  obtain ⟨qT, v, rfl, hv⟩ := q_434
  obtain ⟨A1, L1, i1, i2, i3⟩ := id qT
  have f38 : ∀ x j, 38 ≤ x → x ≤ 57 → h_434 x j = h x j := fun x j z0 z1 => i2 x j (by omega)
  have m := lw_keepM hJ f38
  have md := lw_md hJ.1.1 m
  have hM1 := i1.2.1.2.1
  have hn1 := hM1.1
  refine am_aload_n (pc' := 438) dL_law_437 rfl rfl rfl ?_
  refine am_aload_n (pc' := 439) dL_law_438 rfl rfl rfl ?_
  refine am_iload_n (pc' := 440) dL_law_439 rfl rfl rfl ?_
  refine am_iconst (pc' := 441) dL_law_440 rfl rfl ?_
  refine am_iadd (pc' := 442) dL_law_441 rfl ⟨by omega, by omega⟩ ?_
  refine am_sld (pc' := 443) rfl dL_law_442 rfl (by omega) (by omega) ?_
  refine am_callV0 (pc' := 446) (as := [_]) (ci := 7)  rfl dL_law_443 rfl ok_X8_now ml_L_47 im_X8_now se_X8_now rfl (Nat.le_of_ble_eq_true rfl) rfl (Nat.le_of_ble_eq_true rfl) (by first | assumption | exact ⟨by omega, by omega, rfl⟩) (t8_now hM1 md.1) (fun r_443 ρ_443 h_443 q_443 g_443 e_443 => ?_)
  obtain ⟨rfl, f2, v', rfl, hv'⟩ := q_443
  rw [m.1.1, lw_nx m, lw_row m] at hv'
  have e := o_g3_uniq hv hv' (fun _ _ z z' => o_now_uniq z z')
  obtain ⟨A2, L2, J2, p1, p2⟩ := jt_T hJ qT f2 b3
  refine am_icmp_eq (pc' := 449) (tgt := 1096) dL_law_446 rfl rfl (fun _ => ?_) (fun c => absurd e c)
  exact am_WPle p1 p2 (kk _ _ _ _ _ _ J2)
theorem lw_c7 {ρ h : am_H} {Lx : Nat} {xs : Int → Int} {A L S K i : Int} {Q : am_Q} (hi : 0 ≤ i ∧ i + 6 ≤ (Lx : Int)) (hLx : Lx ≤ 3072) (hJ : lw_J ρ h A L S K) (kk : ∀ ρ h A L S K, lw_J ρ h A L S K → am_WP (mL_law Lx xs) (lw_pc L K) (lw_ps L K) 1096 [some (am_R (-1)), some (am_R 1), some (am_R 38), some (am_I i)] [] ρ h Q) : am_WP (mL_law Lx xs) (lw_pc L K) (lw_ps L K) 451 [some (am_R (-1)), some (am_R 1), some (am_R 38), some (am_I i)] [] ρ h Q := by
  have hC := hJ.1.2.1.1
  have hM := hJ.1.2.1.2.1
  have hn58 := hC.1
  obtain ⟨mc, ms, bc9, bs9, hb, b1, b2, b3⟩ := lw_bud1 (h := h) (L := L) (K := K) (N := (mt_pw (h 11 0) (h 11 1).toNat)) (g := (-1 ≤ (xs (i + 1)) ∧ (xs (i + 1)) < 5) ∧ h 11 1 ≠ 0) (fun z => (lw_cnt hJ z.2).1) (fun z => (lw_cnt hJ z.2).2)
  refine am_WPle b1 b2 ?_
  refine am_aload_n (pc' := 452) dL_law_451 rfl rfl rfl ?_
  refine am_aload_n (pc' := 453) dL_law_452 rfl rfl rfl ?_
  refine am_iload_n (pc' := 454) dL_law_453 rfl rfl rfl ?_
  refine am_iconst (pc' := 455) dL_law_454 rfl rfl ?_
  refine am_iadd (pc' := 456) dL_law_455 rfl ⟨by omega, by omega⟩ ?_
  refine am_sld (pc' := 457) rfl dL_law_456 rfl (by omega) (by omega) ?_
  refine am_callVg (pc' := 460) (as := [_]) (ci := 6) (mc := mc) (bc := bc9) (ms := ms) (bs := bs9) rfl dL_law_457 rfl ok_X7_from ml_L_48 im_X7_from se_X7_from rfl (Nat.le_of_ble_eq_true rfl) rfl (Nat.le_of_ble_eq_true rfl) (by first | assumption | exact ⟨by omega, by omega, rfl⟩) (t_from hJ.1 hb) (fun r_457 ρ_457 h_457 q_457 g_457 e_457 => ?_)
  obtain ⟨qT, v, rfl, hv⟩ := q_457
  obtain ⟨A1, L1, i1, i2, i3⟩ := id qT
  have f38 : ∀ x j, 38 ≤ x → x ≤ 57 → h_457 x j = h x j := fun x j z0 z1 => i2 x j (by omega)
  have m := lw_keepM hJ f38
  have md := lw_md hJ.1.1 m
  have hM1 := i1.2.1.2.1
  have hn1 := hM1.1
  refine am_aload_n (pc' := 461) dL_law_460 rfl rfl rfl ?_
  refine am_aload_n (pc' := 462) dL_law_461 rfl rfl rfl ?_
  refine am_iload_n (pc' := 463) dL_law_462 rfl rfl rfl ?_
  refine am_iconst (pc' := 464) dL_law_463 rfl rfl ?_
  refine am_iadd (pc' := 465) dL_law_464 rfl ⟨by omega, by omega⟩ ?_
  refine am_sld (pc' := 466) rfl dL_law_465 rfl (by omega) (by omega) ?_
  refine am_callV0 (pc' := 469) (as := [_]) (ci := 7)  rfl dL_law_466 rfl ok_X8_from ml_L_51 im_X8_from se_X8_from rfl (Nat.le_of_ble_eq_true rfl) rfl (Nat.le_of_ble_eq_true rfl) (by first | assumption | exact ⟨by omega, by omega, rfl⟩) (t8_from hM1 md.1) (fun r_466 ρ_466 h_466 q_466 g_466 e_466 => ?_)
  obtain ⟨rfl, f2, v', rfl, hv'⟩ := q_466
  rw [m.1.1, m.1.2.1, lw_nx m, lw_N m, lw_row m] at hv'
  have e := o_g3_uniq hv hv' (fun _ _ z z' => o_from_uniq z z')
  obtain ⟨A2, L2, J2, p1, p2⟩ := jt_T hJ qT f2 b3
  refine am_icmp_eq (pc' := 472) (tgt := 1096) dL_law_469 rfl rfl (fun _ => ?_) (fun c => absurd e c)
  exact am_WPle p1 p2 (kk _ _ _ _ _ _ J2)
