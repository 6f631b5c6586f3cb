/-! the law, case by case -/
theorem lw_c8 {ρ h : am_H} {Lx : Nat} {xs : Int → Int} {A L S K i : Int} {Q : am_Q} (hi : 0 ≤ i ∧ i + 6 ≤ (Lx : Int)) (hLx : Lx ≤ 3072) (hJ : lw_J ρ h A L S K) (kk : ∀ ρ h A L S K, lw_J ρ h A L S K → am_WP (mL_law Lx xs) (lw_pc L K) (lw_ps L K) 1096 [some (am_R (-1)), some (am_R 1), some (am_R 38), some (am_I i)] [] ρ h Q) : am_WP (mL_law Lx xs) (lw_pc L K) (lw_ps L K) 474 [some (am_R (-1)), some (am_R 1), some (am_R 38), some (am_I i)] [] ρ h Q := by
  have hC := hJ.1.2.1.1
  have hM := hJ.1.2.1.2.1
  have hn58 := hC.1
  obtain ⟨mc, ms, bc9, bs9, hb, b1, b2, b3⟩ := lw_bud1 (h := h) (L := L) (K := K) (N := (mt_pw (h 11 0) (h 11 1).toNat)) (g := (0 ≤ (xs (i + 1)) ∧ (xs (i + 1)) ≤ 4) ∧ h 11 1 ≠ 0) (fun z => (lw_cnt hJ z.2).1) (fun z => (lw_cnt hJ z.2).2)
  refine am_WPle b1 b2 ?_
  refine am_aload_n (pc' := 475) dL_law_474 rfl rfl rfl ?_
  refine am_aload_n (pc' := 476) dL_law_475 rfl rfl rfl ?_
  refine am_iload_n (pc' := 477) dL_law_476 rfl rfl rfl ?_
  refine am_iconst (pc' := 478) dL_law_477 rfl rfl ?_
  refine am_iadd (pc' := 479) dL_law_478 rfl ⟨by omega, by omega⟩ ?_
  refine am_sld (pc' := 480) rfl dL_law_479 rfl (by omega) (by omega) ?_
  refine am_callVg (pc' := 483) (as := [_]) (ci := 6) (mc := mc) (bc := bc9) (ms := ms) (bs := bs9) rfl dL_law_480 rfl ok_X7_rows ml_L_52 im_X7_rows se_X7_rows rfl (Nat.le_of_ble_eq_true rfl) rfl (Nat.le_of_ble_eq_true rfl) (by first | assumption | exact ⟨by omega, by omega, rfl⟩) (t_rows hJ.1 hb) (fun r_480 ρ_480 h_480 q_480 g_480 e_480 => ?_)
  obtain ⟨qT, v, rfl, hv⟩ := q_480
  obtain ⟨A1, L1, i1, i2, i3⟩ := id qT
  have f38 : ∀ x j, 38 ≤ x → x ≤ 57 → h_480 x j = h x j := fun x j z0 z1 => i2 x j (by omega)
  have m := lw_keepM hJ f38
  have md := lw_md hJ.1.1 m
  have hM1 := i1.2.1.2.1
  have hn1 := hM1.1
  refine am_aload_n (pc' := 484) dL_law_483 rfl rfl rfl ?_
  refine am_aload_n (pc' := 485) dL_law_484 rfl rfl rfl ?_
  refine am_iload_n (pc' := 486) dL_law_485 rfl rfl rfl ?_
  refine am_iconst (pc' := 487) dL_law_486 rfl rfl ?_
  refine am_iadd (pc' := 488) dL_law_487 rfl ⟨by omega, by omega⟩ ?_
  refine am_sld (pc' := 489) rfl dL_law_488 rfl (by omega) (by omega) ?_
  refine am_callV0 (pc' := 492) (as := [_]) (ci := 7)  rfl dL_law_489 rfl ok_X8_rows ml_L_55 im_X8_rows se_X8_rows rfl (Nat.le_of_ble_eq_true rfl) rfl (Nat.le_of_ble_eq_true rfl) (by first | assumption | exact ⟨by omega, by omega, rfl⟩) (t8_rows hM1 md.1) (fun r_489 ρ_489 h_489 q_489 g_489 e_489 => ?_)
  obtain ⟨rfl, f2, v', rfl, hv'⟩ := q_489
  rw [m.1.1, lw_nx m, lw_N m] at hv'
  have e := o_g3_uniq hv hv' (fun _ _ z z' => o_rows_uniq z z')
  obtain ⟨A2, L2, J2, p1, p2⟩ := jt_T hJ qT f2 b3
  refine am_icmp_eq (pc' := 495) (tgt := 1096) dL_law_492 rfl rfl (fun _ => ?_) (fun c => absurd e c)
  exact am_WPle p1 p2 (kk _ _ _ _ _ _ J2)
theorem lw_c9 {ρ h : am_H} {Lx : Nat} {xs : Int → Int} {A L S K i : Int} {Q : am_Q} (hi : 0 ≤ i ∧ i + 6 ≤ (Lx : Int)) (hLx : Lx ≤ 3072) (hJ : lw_J ρ h A L S K) (kk : ∀ ρ h A L S K, lw_J ρ h A L S K → am_WP (mL_law Lx xs) (lw_pc L K) (lw_ps L K) 1096 [some (am_R (-1)), some (am_R 1), some (am_R 38), some (am_I i)] [] ρ h Q) : am_WP (mL_law Lx xs) (lw_pc L K) (lw_ps L K) 497 [some (am_R (-1)), some (am_R 1), some (am_R 38), some (am_I i)] [] ρ h Q := by
  have hC := hJ.1.2.1.1
  have hM := hJ.1.2.1.2.1
  have hn58 := hC.1
  obtain ⟨mc, ms, bc9, bs9, hb, b1, b2, b3⟩ := lw_bud1 (h := h) (L := L) (K := K) (N := (mt_pw (h 11 0) (h 11 1).toNat)) (g := (-1 ≤ (xs (i + 1)) ∧ (xs (i + 1)) < 5) ∧ h 11 1 ≠ 0) (fun z => (lw_cnt hJ z.2).1) (fun z => (lw_cnt hJ z.2).2)
  refine am_WPle b1 b2 ?_
  refine am_aload_n (pc' := 498) dL_law_497 rfl rfl rfl ?_
  refine am_aload_n (pc' := 499) dL_law_498 rfl rfl rfl ?_
  refine am_iload_n (pc' := 500) dL_law_499 rfl rfl rfl ?_
  refine am_iconst (pc' := 501) dL_law_500 rfl rfl ?_
  refine am_iadd (pc' := 502) dL_law_501 rfl ⟨by omega, by omega⟩ ?_
  refine am_sld (pc' := 503) rfl dL_law_502 rfl (by omega) (by omega) ?_
  refine am_callVg (pc' := 506) (as := [_]) (ci := 6) (mc := mc) (bc := bc9) (ms := ms) (bs := bs9) rfl dL_law_503 rfl ok_X7_longest ml_L_56 im_X7_longest se_X7_longest rfl (Nat.le_of_ble_eq_true rfl) rfl (Nat.le_of_ble_eq_true rfl) (by first | assumption | exact ⟨by omega, by omega, rfl⟩) (t_longest hJ.1 hb) (fun r_503 ρ_503 h_503 q_503 g_503 e_503 => ?_)
  obtain ⟨qT, v, rfl, hv⟩ := q_503
  obtain ⟨A1, L1, i1, i2, i3⟩ := id qT
  have f38 : ∀ x j, 38 ≤ x → x ≤ 57 → h_503 x j = h x j := fun x j z0 z1 => i2 x j (by omega)
  have m := lw_keepM hJ f38
  have md := lw_md hJ.1.1 m
  have hM1 := i1.2.1.2.1
  have hn1 := hM1.1
  refine am_aload_n (pc' := 507) dL_law_506 rfl rfl rfl ?_
  refine am_aload_n (pc' := 508) dL_law_507 rfl rfl rfl ?_
  refine am_iload_n (pc' := 509) dL_law_508 rfl rfl rfl ?_
  refine am_iconst (pc' := 510) dL_law_509 rfl rfl ?_
  refine am_iadd (pc' := 511) dL_law_510 rfl ⟨by omega, by omega⟩ ?_
  refine am_sld (pc' := 512) rfl dL_law_511 rfl (by omega) (by omega) ?_
  refine am_callV0 (pc' := 515) (as := [_]) (ci := 7)  rfl dL_law_512 rfl ok_X8_longest ml_L_59 im_X8_longest se_X8_longest rfl (Nat.le_of_ble_eq_true rfl) rfl (Nat.le_of_ble_eq_true rfl) (by first | assumption | exact ⟨by omega, by omega, rfl⟩) (t8_longest hM1 md.1) (fun r_512 ρ_512 h_512 q_512 g_512 e_512 => ?_)
  obtain ⟨rfl, f2, v', rfl, hv'⟩ := q_512
  rw [m.1.1, m.1.2.1, lw_nx m, lw_N m] at hv'
  have e := o_g3_uniq hv hv' (fun _ _ z z' => o_longest_uniq z z')
  obtain ⟨A2, L2, J2, p1, p2⟩ := jt_T hJ qT f2 b3
  refine am_icmp_eq (pc' := 518) (tgt := 1096) dL_law_515 rfl rfl (fun _ => ?_) (fun c => absurd e c)
  exact am_WPle p1 p2 (kk _ _ _ _ _ _ J2)
theorem lw_c10 {ρ h : am_H} {Lx : Nat} {xs : Int → Int} {A L S K i : Int} {Q : am_Q} (hi : 0 ≤ i ∧ i + 6 ≤ (Lx : Int)) (hLx : Lx ≤ 3072) (hJ : lw_J ρ h A L S K) (kk : ∀ ρ h A L S K, lw_J ρ h A L S K → am_WP (mL_law Lx xs) (lw_pc L K) (lw_ps L K) 1096 [some (am_R (-1)), some (am_R 1), some (am_R 38), some (am_I i)] [] ρ h Q) : am_WP (mL_law Lx xs) (lw_pc L K) (lw_ps L K) 520 [some (am_R (-1)), some (am_R 1), some (am_R 38), some (am_I i)] [] ρ h Q := by
  have hC := hJ.1.2.1.1
  have hM := hJ.1.2.1.2.1
  have hn58 := hC.1
  obtain ⟨mc, ms, bc9, bs9, hb, b1, b2, b3⟩ := lw_bud1 (h := h) (L := L) (K := K) (N := (mt_pw (h 11 0) (h 11 1).toNat)) (g := o_meetG (h 11 1) (h 11 0) (xs (i + 1)) (xs (i + 2)) (o_fl h (xs (i + 1)) (xs (i + 2)) (xs (i + 3)) (h 11 1)) (o_c h (xs (i + 1)) (xs (i + 3)))) (fun z => (lw_cnt hJ z.1).1) (fun z => (lw_cnt hJ z.1).2)
  refine am_WPle b1 b2 ?_
  refine am_aload_n (pc' := 521) dL_law_520 rfl rfl rfl ?_
  refine am_aload_n (pc' := 522) dL_law_521 rfl rfl rfl ?_
  refine am_iload_n (pc' := 523) dL_law_522 rfl rfl rfl ?_
  refine am_iconst (pc' := 524) dL_law_523 rfl rfl ?_
  refine am_iadd (pc' := 525) dL_law_524 rfl ⟨by omega, by omega⟩ ?_
  refine am_sld (pc' := 526) rfl dL_law_525 rfl (by omega) (by omega) ?_
  refine am_aload_n (pc' := 527) dL_law_526 rfl rfl rfl ?_
  refine am_iload_n (pc' := 528) dL_law_527 rfl rfl rfl ?_
  refine am_iconst (pc' := 529) dL_law_528 rfl rfl ?_
  refine am_iadd (pc' := 530) dL_law_529 rfl ⟨by omega, by omega⟩ ?_
  refine am_sld (pc' := 531) rfl dL_law_530 rfl (by omega) (by omega) ?_
  refine am_aload_n (pc' := 532) dL_law_531 rfl rfl rfl ?_
  refine am_iload_n (pc' := 533) dL_law_532 rfl rfl rfl ?_
  refine am_iconst (pc' := 534) dL_law_533 rfl rfl ?_
  refine am_iadd (pc' := 535) dL_law_534 rfl ⟨by omega, by omega⟩ ?_
  refine am_sld (pc' := 536) rfl dL_law_535 rfl (by omega) (by omega) ?_
  refine am_callVg (pc' := 539) (as := [_, _, _]) (ci := 6) (mc := mc) (bc := bc9) (ms := ms) (bs := bs9) rfl dL_law_536 rfl ok_X7_meet ml_L_60 im_X7_meet se_X7_meet rfl (Nat.le_of_ble_eq_true rfl) rfl (Nat.le_of_ble_eq_true rfl) (by first | assumption | exact ⟨by omega, by omega, rfl⟩) (t_meet hJ.1 hb) (fun r_536 ρ_536 h_536 q_536 g_536 e_536 => ?_)
  obtain ⟨v, f, rfl, qT, o1⟩ := q_536
  obtain ⟨A1, L1, i1, i2, i3, i4⟩ := id qT
  have f38 : ∀ x j, 38 ≤ x → x ≤ 57 → h_536 x j = h x j := fun x j z0 z1 => i2 x j (by omega) (by omega)
  have m := lw_keepM hJ f38
  have md := lw_md hJ.1.1 m
  have hM1 := i1.2.1.2.1
  have hn1 := hM1.1
  refine am_aload_n (pc' := 540) dL_law_539 rfl rfl rfl ?_
  refine am_aload_n (pc' := 541) dL_law_540 rfl rfl rfl ?_
  refine am_iload_n (pc' := 542) dL_law_541 rfl rfl rfl ?_
  refine am_iconst (pc' := 543) dL_law_542 rfl rfl ?_
  refine am_iadd (pc' := 544) dL_law_543 rfl ⟨by omega, by omega⟩ ?_
  refine am_sld (pc' := 545) rfl dL_law_544 rfl (by omega) (by omega) ?_
  refine am_aload_n (pc' := 546) dL_law_545 rfl rfl rfl ?_
  refine am_iload_n (pc' := 547) dL_law_546 rfl rfl rfl ?_
  refine am_iconst (pc' := 548) dL_law_547 rfl rfl ?_
  refine am_iadd (pc' := 549) dL_law_548 rfl ⟨by omega, by omega⟩ ?_
  refine am_sld (pc' := 550) rfl dL_law_549 rfl (by omega) (by omega) ?_
  refine am_aload_n (pc' := 551) dL_law_550 rfl rfl rfl ?_
  refine am_iload_n (pc' := 552) dL_law_551 rfl rfl rfl ?_
  refine am_iconst (pc' := 553) dL_law_552 rfl rfl ?_
  refine am_iadd (pc' := 554) dL_law_553 rfl ⟨by omega, by omega⟩ ?_
  refine am_sld (pc' := 555) rfl dL_law_554 rfl (by omega) (by omega) ?_
  refine am_callV0 (pc' := 558) (as := [_, _, _]) (ci := 7)  rfl dL_law_555 rfl ok_X8_meet ml_L_64 im_X8_meet se_X8_meet rfl (Nat.le_of_ble_eq_true rfl) rfl (Nat.le_of_ble_eq_true rfl) (by first | assumption | exact ⟨by omega, by omega, rfl⟩) (t8_meet hM1 md.1 md.2.2) (fun r_555 ρ_555 h_555 q_555 g_555 e_555 => ?_)
  obtain ⟨rfl, v', f', rfl, f2, o2⟩ := q_555
  rw [m.1.1, m.1.2.1, lw_nx m, lw_row m] at o2
  have o3 : o_meet (h 11 1) (h 11 0) (o_nx h) (o_row h) (xs (i + 1)) (xs (i + 2)) (o_fl h (xs (i + 1)) (xs (i + 2)) (xs (i + 3)) (h 11 1)) (md_c h_536 (xs (i + 1)) (xs (i + 3))) v' f' := by
    by_cases hk : 0 ≤ (xs (i + 1)) ∧ (xs (i + 1)) < 4
    · rw [lw_fl m hk] at o2; exact o2
    · exact o_meet_fl hk o2
  obtain ⟨e, ef⟩ := o_meet_uniq (fun z y p p0 p1 => (lw_cells m y z p p0 p1).symm) o1 o3
  rw [← ef] at f2
  obtain ⟨A2, L2, J2, p1, p2⟩ := jt_Tf hJ qT f2 b3
  refine am_icmp_eq (pc' := 561) (tgt := 1096) dL_law_558 rfl rfl (fun _ => ?_) (fun c => absurd e c)
  exact am_WPle p1 p2 (kk _ _ _ _ _ _ J2)
theorem lw_c11 {ρ h : am_H} {Lx : Nat} {xs : Int → Int} {A L S K i : Int} {Q : am_Q} (hi : 0 ≤ i ∧ i + 6 ≤ (Lx : Int)) (hLx : Lx ≤ 3072) (hJ : lw_J ρ h A L S K) (kk : ∀ ρ h A L S K, lw_J ρ h A L S K → am_WP (mL_law Lx xs) (lw_pc L K) (lw_ps L K) 1096 [some (am_R (-1)), some (am_R 1), some (am_R 38), some (am_I i)] [] ρ h Q) : am_WP (mL_law Lx xs) (lw_pc L K) (lw_ps L K) 563 [some (am_R (-1)), some (am_R 1), some (am_R 38), some (am_I i)] [] ρ h Q := by
  have hC := hJ.1.2.1.1
  have hM := hJ.1.2.1.2.1
  have hn58 := hC.1
  obtain ⟨mc, ms, bc9, bs9, hb, b1, b2, b3⟩ := lw_bud1 (h := h) (L := L) (K := K) (N := (mt_pw (h 11 0) (h 11 1).toNat)) (g := (0 ≤ (xs (i + 1)) ∧ (xs (i + 1)) ≤ 1) ∧ h 11 1 ≠ 0) (fun z => (lw_cnt hJ z.2).1) (fun z => (lw_cnt hJ z.2).2)
  refine am_WPle b1 b2 ?_
  refine am_aload_n (pc' := 564) dL_law_563 rfl rfl rfl ?_
  refine am_aload_n (pc' := 565) dL_law_564 rfl rfl rfl ?_
  refine am_iload_n (pc' := 566) dL_law_565 rfl rfl rfl ?_
  refine am_iconst (pc' := 567) dL_law_566 rfl rfl ?_
  refine am_iadd (pc' := 568) dL_law_567 rfl ⟨by omega, by omega⟩ ?_
  refine am_sld (pc' := 569) rfl dL_law_568 rfl (by omega) (by omega) ?_
  refine am_callVg (pc' := 572) (as := [_]) (ci := 6) (mc := mc) (bc := bc9) (ms := ms) (bs := bs9) rfl dL_law_569 rfl ok_X7_few ml_L_65 im_X7_few se_X7_few rfl (Nat.le_of_ble_eq_true rfl) rfl (Nat.le_of_ble_eq_true rfl) (by first | assumption | exact ⟨by omega, by omega, rfl⟩) (t_few hJ.1 hb) (fun r_569 ρ_569 h_569 q_569 g_569 e_569 => ?_)
  obtain ⟨qT, v, rfl, hv⟩ := q_569
  obtain ⟨A1, L1, i1, i2, i3⟩ := id qT
  have f38 : ∀ x j, 38 ≤ x → x ≤ 57 → h_569 x j = h x j := fun x j z0 z1 => i2 x j (by omega)
  have m := lw_keepM hJ f38
  have md := lw_md hJ.1.1 m
  have hM1 := i1.2.1.2.1
  have hn1 := hM1.1
  refine am_aload_n (pc' := 573) dL_law_572 rfl rfl rfl ?_
  refine am_aload_n (pc' := 574) dL_law_573 rfl rfl rfl ?_
  refine am_iload_n (pc' := 575) dL_law_574 rfl rfl rfl ?_
  refine am_iconst (pc' := 576) dL_law_575 rfl rfl ?_
  refine am_iadd (pc' := 577) dL_law_576 rfl ⟨by omega, by omega⟩ ?_
  refine am_sld (pc' := 578) rfl dL_law_577 rfl (by omega) (by omega) ?_
  refine am_callV0 (pc' := 581) (as := [_]) (ci := 7)  rfl dL_law_578 rfl ok_X8_few ml_L_68 im_X8_few se_X8_few rfl (Nat.le_of_ble_eq_true rfl) rfl (Nat.le_of_ble_eq_true rfl) (by first | assumption | exact ⟨by omega, by omega, rfl⟩) (t8_few hM1 md.1) (fun r_578 ρ_578 h_578 q_578 g_578 e_578 => ?_)
  obtain ⟨rfl, f2, v', rfl, hv'⟩ := q_578
  rw [m.1.1, m.1.2.1, lw_nx m, lw_N m, lw_row m] at hv'
  have e := o_g3_uniq hv hv' (fun _ _ z z' => o_few_uniq z z')
  obtain ⟨A2, L2, J2, p1, p2⟩ := jt_T hJ qT f2 b3
  refine am_icmp_eq (pc' := 584) (tgt := 1096) dL_law_581 rfl rfl (fun _ => ?_) (fun c => absurd e c)
  exact am_WPle p1 p2 (kk _ _ _ _ _ _ J2)
