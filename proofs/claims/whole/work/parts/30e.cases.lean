/-! the law, case by case -/
theorem lw_c12 {ρ h : am_H} {Lx : Nat} {xs : Int → Int} {A L S K i : Int} {Q : am_Q} (hi : 0 ≤ i ∧ i + 6 ≤ (Lx : Int)) (hLx : Lx ≤ 3072) (hJ : lw_J ρ h A L S K) (kk : ∀ ρ h A L S K, lw_J ρ h A L S K → am_WP (mL_law Lx xs) (lw_pc L K) (lw_ps L K) 1096 [some (am_R (-1)), some (am_R 1), some (am_R 38), some (am_I i)] [] ρ h Q) : am_WP (mL_law Lx xs) (lw_pc L K) (lw_ps L K) 586 [some (am_R (-1)), some (am_R 1), some (am_R 38), some (am_I i)] [] ρ h Q := by
  have hC := hJ.1.2.1.1
  have hM := hJ.1.2.1.2.1
  have hn58 := hC.1
  refine am_aload_n (pc' := 587) dL_law_586 rfl rfl rfl ?_
  refine am_aload_n (pc' := 588) dL_law_587 rfl rfl rfl ?_
  refine am_iload_n (pc' := 589) dL_law_588 rfl rfl rfl ?_
  refine am_iconst (pc' := 590) dL_law_589 rfl rfl ?_
  refine am_iadd (pc' := 591) dL_law_590 rfl ⟨by omega, by omega⟩ ?_
  refine am_sld (pc' := 592) rfl dL_law_591 rfl (by omega) (by omega) ?_
  refine am_aload_n (pc' := 593) dL_law_592 rfl rfl rfl ?_
  refine am_iload_n (pc' := 594) dL_law_593 rfl rfl rfl ?_
  refine am_iconst (pc' := 595) dL_law_594 rfl rfl ?_
  refine am_iadd (pc' := 596) dL_law_595 rfl ⟨by omega, by omega⟩ ?_
  refine am_sld (pc' := 597) rfl dL_law_596 rfl (by omega) (by omega) ?_
  refine am_aload_n (pc' := 598) dL_law_597 rfl rfl rfl ?_
  refine am_iload_n (pc' := 599) dL_law_598 rfl rfl rfl ?_
  refine am_iconst (pc' := 600) dL_law_599 rfl rfl ?_
  refine am_iadd (pc' := 601) dL_law_600 rfl ⟨by omega, by omega⟩ ?_
  refine am_sld (pc' := 602) rfl dL_law_601 rfl (by omega) (by omega) ?_
  refine am_callV0 (pc' := 605) (as := [_, _, _]) (ci := 6)  rfl dL_law_602 rfl ok_X7_reading ml_L_69 im_X7_reading se_X7_reading rfl (Nat.le_of_ble_eq_true rfl) rfl (Nat.le_of_ble_eq_true rfl) (by first | assumption | exact ⟨by omega, by omega, rfl⟩) (t_reading hC ⟨hJ.1.1.2.2.1, hJ.1.1.2.2.2.1⟩) (fun r_602 ρ_602 h_602 q_602 g_602 e_602 => ?_)
  obtain ⟨rfl, q1⟩ := q_602
  have f38 : ∀ x j, 38 ≤ x → x ≤ 57 → h_602 x j = h x j := fun x j z0 z1 => by
    rcases q1 with ⟨_, _, e⟩ | ⟨_, _, _, e⟩ | ⟨_, _, ⟨_, _, e⟩ | ⟨_, _, c, _⟩⟩
    · rw [e]
    · rw [e]
    · rw [e]
    · exact c x j (by simp; omega)
  have m := lw_keepM hJ f38
  have md := lw_md hJ.1.1 m
  obtain ⟨v, rfl⟩ : ∃ v, r_602 = some (am_I v) := by rcases q1 with ⟨_, e, _⟩ | ⟨_, _, e, _⟩ | ⟨_, _, ⟨_, e, _⟩ | ⟨_, e, _⟩⟩ <;> exact ⟨_, e⟩
  refine am_aload_n (pc' := 606) dL_law_605 rfl rfl rfl ?_
  refine am_aload_n (pc' := 607) dL_law_606 rfl rfl rfl ?_
  refine am_iload_n (pc' := 608) dL_law_607 rfl rfl rfl ?_
  refine am_iconst (pc' := 609) dL_law_608 rfl rfl ?_
  refine am_iadd (pc' := 610) dL_law_609 rfl ⟨by omega, by omega⟩ ?_
  refine am_sld (pc' := 611) rfl dL_law_610 rfl (by omega) (by omega) ?_
  refine am_aload_n (pc' := 612) dL_law_611 rfl rfl rfl ?_
  refine am_iload_n (pc' := 613) dL_law_612 rfl rfl rfl ?_
  refine am_iconst (pc' := 614) dL_law_613 rfl rfl ?_
  refine am_iadd (pc' := 615) dL_law_614 rfl ⟨by omega, by omega⟩ ?_
  refine am_sld (pc' := 616) rfl dL_law_615 rfl (by omega) (by omega) ?_
  refine am_aload_n (pc' := 617) dL_law_616 rfl rfl rfl ?_
  refine am_iload_n (pc' := 618) dL_law_617 rfl rfl rfl ?_
  refine am_iconst (pc' := 619) dL_law_618 rfl rfl ?_
  refine am_iadd (pc' := 620) dL_law_619 rfl ⟨by omega, by omega⟩ ?_
  refine am_sld (pc' := 621) rfl dL_law_620 rfl (by omega) (by omega) ?_
  refine am_callV0 (pc' := 624) (as := [_, _, _]) (ci := 7)  rfl dL_law_621 rfl ok_X8_reading ml_L_72 im_X8_reading se_X8_reading rfl (Nat.le_of_ble_eq_true rfl) rfl (Nat.le_of_ble_eq_true rfl) (by first | assumption | exact ⟨by omega, by omega, rfl⟩) (t8_reading hM md.1 ⟨md.2.1.1, md.2.1.2.1⟩) (fun r_621 ρ_621 h_621 q_621 g_621 e_621 => ?_)
  obtain ⟨rfl, q2⟩ := q_621
  obtain ⟨hr, J2⟩ := jt_reading hJ q1 q2
  subst hr
  refine am_icmp_eq (pc' := 627) (tgt := 1096) dL_law_624 rfl rfl (fun _ => ?_) (fun c => absurd rfl c)
  exact kk _ _ _ _ _ _ J2
theorem lw_c13 {ρ h : am_H} {Lx : Nat} {xs : Int → Int} {A L S K i : Int} {Q : am_Q} (hi : 0 ≤ i ∧ i + 6 ≤ (Lx : Int)) (hLx : Lx ≤ 3072) (hJ : lw_J ρ h A L S K) (kk : ∀ ρ h A L S K, lw_J ρ h A L S K → am_WP (mL_law Lx xs) (lw_pc L K) (lw_ps L K) 1096 [some (am_R (-1)), some (am_R 1), some (am_R 38), some (am_I i)] [] ρ h Q) : am_WP (mL_law Lx xs) (lw_pc L K) (lw_ps L K) 629 [some (am_R (-1)), some (am_R 1), some (am_R 38), some (am_I i)] [] ρ h Q := by
  have hC := hJ.1.2.1.1
  have hM := hJ.1.2.1.2.1
  have hn58 := hC.1
  refine am_aload_n (pc' := 630) dL_law_629 rfl rfl rfl ?_
  refine am_aload_n (pc' := 631) dL_law_630 rfl rfl rfl ?_
  refine am_iload_n (pc' := 632) dL_law_631 rfl rfl rfl ?_
  refine am_iconst (pc' := 633) dL_law_632 rfl rfl ?_
  refine am_iadd (pc' := 634) dL_law_633 rfl ⟨by omega, by omega⟩ ?_
  refine am_sld (pc' := 635) rfl dL_law_634 rfl (by omega) (by omega) ?_
  refine am_callV0 (pc' := 638) (as := [_]) (ci := 6)  rfl dL_law_635 rfl ok_X7_back ml_L_73 im_X7_back se_X7_back rfl (Nat.le_of_ble_eq_true rfl) rfl (Nat.le_of_ble_eq_true rfl) (by first | assumption | exact ⟨by omega, by omega, rfl⟩) (t_back hC ⟨hJ.1.1.2.2.1, hJ.1.1.2.2.2.1⟩) (fun r_635 ρ_635 h_635 q_635 g_635 e_635 => ?_)
  obtain ⟨rfl, q1⟩ := q_635
  have f38 : ∀ x j, 38 ≤ x → x ≤ 57 → h_635 x j = h x j := fun x j z0 z1 => by
    rcases q1 with ⟨_, _, e⟩ | ⟨_, _, e⟩
    · rw [e]
    · rw [e]; exact am_u_n (by omega)
  have m := lw_keepM hJ f38
  have md := lw_md hJ.1.1 m
  obtain ⟨v, rfl⟩ : ∃ v, r_635 = some (am_I v) := by rcases q1 with ⟨_, e, _⟩ | ⟨_, e, _⟩ <;> exact ⟨_, e⟩
  refine am_aload_n (pc' := 639) dL_law_638 rfl rfl rfl ?_
  refine am_aload_n (pc' := 640) dL_law_639 rfl rfl rfl ?_
  refine am_iload_n (pc' := 641) dL_law_640 rfl rfl rfl ?_
  refine am_iconst (pc' := 642) dL_law_641 rfl rfl ?_
  refine am_iadd (pc' := 643) dL_law_642 rfl ⟨by omega, by omega⟩ ?_
  refine am_sld (pc' := 644) rfl dL_law_643 rfl (by omega) (by omega) ?_
  refine am_callV0 (pc' := 647) (as := [_]) (ci := 7)  rfl dL_law_644 rfl ok_X8_back ml_L_76 im_X8_back se_X8_back rfl (Nat.le_of_ble_eq_true rfl) rfl (Nat.le_of_ble_eq_true rfl) (by first | assumption | exact ⟨by omega, by omega, rfl⟩) (t8_back hM ⟨md.2.1.1, md.2.1.2.1⟩) (fun r_644 ρ_644 h_644 q_644 g_644 e_644 => ?_)
  obtain ⟨rfl, q2⟩ := q_644
  obtain ⟨hr, J2⟩ := jt_back hJ q1 q2
  subst hr
  refine am_icmp_eq (pc' := 650) (tgt := 1096) dL_law_647 rfl rfl (fun _ => ?_) (fun c => absurd rfl c)
  exact kk _ _ _ _ _ _ J2
theorem lw_c14 {ρ h : am_H} {Lx : Nat} {xs : Int → Int} {A L S K i : Int} {Q : am_Q} (hi : 0 ≤ i ∧ i + 6 ≤ (Lx : Int)) (hLx : Lx ≤ 3072) (hJ : lw_J ρ h A L S K) (kk : ∀ ρ h A L S K, lw_J ρ h A L S K → am_WP (mL_law Lx xs) (lw_pc L K) (lw_ps L K) 1096 [some (am_R (-1)), some (am_R 1), some (am_R 38), some (am_I i)] [] ρ h Q) : am_WP (mL_law Lx xs) (lw_pc L K) (lw_ps L K) 652 [some (am_R (-1)), some (am_R 1), some (am_R 38), some (am_I i)] [] ρ h Q := by
  have hC := hJ.1.2.1.1
  have hM := hJ.1.2.1.2.1
  have hn58 := hC.1
  refine am_aload_n (pc' := 653) dL_law_652 rfl rfl rfl ?_
  refine am_aload_n (pc' := 654) dL_law_653 rfl rfl rfl ?_
  refine am_iload_n (pc' := 655) dL_law_654 rfl rfl rfl ?_
  refine am_iconst (pc' := 656) dL_law_655 rfl rfl ?_
  refine am_iadd (pc' := 657) dL_law_656 rfl ⟨by omega, by omega⟩ ?_
  refine am_sld (pc' := 658) rfl dL_law_657 rfl (by omega) (by omega) ?_
  refine am_callV0 (pc' := 661) (as := [_]) (ci := 6)  rfl dL_law_658 rfl ok_X7_kinds ml_L_77 im_X7_kinds se_X7_kinds rfl (Nat.le_of_ble_eq_true rfl) rfl (Nat.le_of_ble_eq_true rfl) (by first | assumption | exact ⟨by omega, by omega, rfl⟩) (t_kinds hC hJ.1.1.1 hJ.1.1.2.2) (fun r_658 ρ_658 h_658 q_658 g_658 e_658 => ?_)
  obtain ⟨rfl, f1, q1⟩ := q_658
  have f38 : ∀ x j, 38 ≤ x → x ≤ 57 → h_658 x j = h x j := fun x j z0 z1 => f1 x j (by simp; omega)
  have m := lw_keepM hJ f38
  have md := lw_md hJ.1.1 m
  obtain ⟨v, rfl⟩ : ∃ v, r_658 = some (am_I v) := by rcases q1 with ⟨_, e⟩ | ⟨_, _, e, _⟩ <;> exact ⟨_, e⟩
  refine am_aload_n (pc' := 662) dL_law_661 rfl rfl rfl ?_
  refine am_aload_n (pc' := 663) dL_law_662 rfl rfl rfl ?_
  refine am_iload_n (pc' := 664) dL_law_663 rfl rfl rfl ?_
  refine am_iconst (pc' := 665) dL_law_664 rfl rfl ?_
  refine am_iadd (pc' := 666) dL_law_665 rfl ⟨by omega, by omega⟩ ?_
  refine am_sld (pc' := 667) rfl dL_law_666 rfl (by omega) (by omega) ?_
  refine am_callV0 (pc' := 670) (as := [_]) (ci := 7)  rfl dL_law_667 rfl ok_X8_kinds ml_L_80 im_X8_kinds se_X8_kinds rfl (Nat.le_of_ble_eq_true rfl) rfl (Nat.le_of_ble_eq_true rfl) (by first | assumption | exact ⟨by omega, by omega, rfl⟩) (t8_kinds hM md.1 md.2.1) (fun r_667 ρ_667 h_667 q_667 g_667 e_667 => ?_)
  obtain ⟨rfl, f2, q2⟩ := q_667
  obtain ⟨hr, J2⟩ := jt_kinds hJ f1 q1 f2 q2
  subst hr
  refine am_icmp_eq (pc' := 673) (tgt := 1096) dL_law_670 rfl rfl (fun _ => ?_) (fun c => absurd rfl c)
  exact kk _ _ _ _ _ _ J2
theorem lw_c15 {ρ h : am_H} {Lx : Nat} {xs : Int → Int} {A L S K i : Int} {Q : am_Q} (hi : 0 ≤ i ∧ i + 6 ≤ (Lx : Int)) (hLx : Lx ≤ 3072) (hJ : lw_J ρ h A L S K) (kk : ∀ ρ h A L S K, lw_J ρ h A L S K → am_WP (mL_law Lx xs) (lw_pc L K) (lw_ps L K) 1096 [some (am_R (-1)), some (am_R 1), some (am_R 38), some (am_I i)] [] ρ h Q) : am_WP (mL_law Lx xs) (lw_pc L K) (lw_ps L K) 675 [some (am_R (-1)), some (am_R 1), some (am_R 38), some (am_I i)] [] ρ h Q := by
  have hC := hJ.1.2.1.1
  have hM := hJ.1.2.1.2.1
  have hn58 := hC.1
  refine am_aload_n (pc' := 676) dL_law_675 rfl rfl rfl ?_
  refine am_aload_n (pc' := 677) dL_law_676 rfl rfl rfl ?_
  refine am_iload_n (pc' := 678) dL_law_677 rfl rfl rfl ?_
  refine am_iconst (pc' := 679) dL_law_678 rfl rfl ?_
  refine am_iadd (pc' := 680) dL_law_679 rfl ⟨by omega, by omega⟩ ?_
  refine am_sld (pc' := 681) rfl dL_law_680 rfl (by omega) (by omega) ?_
  refine am_callV0 (pc' := 684) (as := [_]) (ci := 6)  rfl dL_law_681 rfl ok_X7_firsts ml_L_81 im_X7_firsts se_X7_firsts rfl (Nat.le_of_ble_eq_true rfl) rfl (Nat.le_of_ble_eq_true rfl) (by first | assumption | exact ⟨by omega, by omega, rfl⟩) (t_firsts hC hJ.1.1.1 hJ.1.1.2.2) (fun r_681 ρ_681 h_681 q_681 g_681 e_681 => ?_)
  obtain ⟨rfl, f1, q1⟩ := q_681
  have f38 : ∀ x j, 38 ≤ x → x ≤ 57 → h_681 x j = h x j := fun x j z0 z1 => f1 x j (by simp; omega)
  have m := lw_keepM hJ f38
  have md := lw_md hJ.1.1 m
  obtain ⟨v, rfl⟩ : ∃ v, r_681 = some (am_I v) := by rcases q1 with ⟨_, e⟩ | ⟨_, _, e, _⟩ <;> exact ⟨_, e⟩
  refine am_aload_n (pc' := 685) dL_law_684 rfl rfl rfl ?_
  refine am_aload_n (pc' := 686) dL_law_685 rfl rfl rfl ?_
  refine am_iload_n (pc' := 687) dL_law_686 rfl rfl rfl ?_
  refine am_iconst (pc' := 688) dL_law_687 rfl rfl ?_
  refine am_iadd (pc' := 689) dL_law_688 rfl ⟨by omega, by omega⟩ ?_
  refine am_sld (pc' := 690) rfl dL_law_689 rfl (by omega) (by omega) ?_
  refine am_callV0 (pc' := 693) (as := [_]) (ci := 7)  rfl dL_law_690 rfl ok_X8_firsts ml_L_84 im_X8_firsts se_X8_firsts rfl (Nat.le_of_ble_eq_true rfl) rfl (Nat.le_of_ble_eq_true rfl) (by first | assumption | exact ⟨by omega, by omega, rfl⟩) (t8_firsts hM md.1 md.2.1) (fun r_690 ρ_690 h_690 q_690 g_690 e_690 => ?_)
  obtain ⟨rfl, f2, q2⟩ := q_690
  obtain ⟨hr, J2⟩ := jt_firsts hJ f1 q1 f2 q2
  subst hr
  refine am_icmp_eq (pc' := 696) (tgt := 1096) dL_law_693 rfl rfl (fun _ => ?_) (fun c => absurd rfl c)
  exact kk _ _ _ _ _ _ J2
theorem lw_c16 {ρ h : am_H} {Lx : Nat} {xs : Int → Int} {A L S K i : Int} {Q : am_Q} (hi : 0 ≤ i ∧ i + 6 ≤ (Lx : Int)) (hLx : Lx ≤ 3072) (hJ : lw_J ρ h A L S K) (kk : ∀ ρ h A L S K, lw_J ρ h A L S K → am_WP (mL_law Lx xs) (lw_pc L K) (lw_ps L K) 1096 [some (am_R (-1)), some (am_R 1), some (am_R 38), some (am_I i)] [] ρ h Q) : am_WP (mL_law Lx xs) (lw_pc L K) (lw_ps L K) 698 [some (am_R (-1)), some (am_R 1), some (am_R 38), some (am_I i)] [] ρ h Q := by
  have hC := hJ.1.2.1.1
  have hM := hJ.1.2.1.2.1
  have hn58 := hC.1
  obtain ⟨mc, ms, mc1, ms1, mc2, ms2, bc9, bs9, hb, b1, b2, b3⟩ := lw_bud2 (h := h) (L := L) (K := K) (N := (mt_pw (h 11 0) (h 11 1).toNat)) (t := (xs (i + 2))) (g := (0 ≤ (xs (i + 1)) ∧ (xs (i + 1)) < h 11 1) ∧ ((0 ≤ (xs (i + 2)) ∧ (xs (i + 2)) ≤ 99) ∧ 0 ≤ (xs (i + 3)) ∧ (xs (i + 3)) ≤ 5) ∧ 0 ≤ (xs (i + 4)) ∧ (xs (i + 4)) ≤ 1) (fun z => (lw_cnt hJ (by have := z.1; omega)).1) (fun z => (lw_cnt hJ (by have := z.1; omega)).2)
  refine am_WPle b1 b2 ?_
  refine am_aload_n (pc' := 699) dL_law_698 rfl rfl rfl ?_
  refine am_aload_n (pc' := 700) dL_law_699 rfl rfl rfl ?_
  refine am_iload_n (pc' := 701) dL_law_700 rfl rfl rfl ?_
  refine am_iconst (pc' := 702) dL_law_701 rfl rfl ?_
  refine am_iadd (pc' := 703) dL_law_702 rfl ⟨by omega, by omega⟩ ?_
  refine am_sld (pc' := 704) rfl dL_law_703 rfl (by omega) (by omega) ?_
  refine am_aload_n (pc' := 705) dL_law_704 rfl rfl rfl ?_
  refine am_iload_n (pc' := 706) dL_law_705 rfl rfl rfl ?_
  refine am_iconst (pc' := 707) dL_law_706 rfl rfl ?_
  refine am_iadd (pc' := 708) dL_law_707 rfl ⟨by omega, by omega⟩ ?_
  refine am_sld (pc' := 709) rfl dL_law_708 rfl (by omega) (by omega) ?_
  refine am_aload_n (pc' := 710) dL_law_709 rfl rfl rfl ?_
  refine am_iload_n (pc' := 711) dL_law_710 rfl rfl rfl ?_
  refine am_iconst (pc' := 712) dL_law_711 rfl rfl ?_
  refine am_iadd (pc' := 713) dL_law_712 rfl ⟨by omega, by omega⟩ ?_
  refine am_sld (pc' := 714) rfl dL_law_713 rfl (by omega) (by omega) ?_
  refine am_aload_n (pc' := 715) dL_law_714 rfl rfl rfl ?_
  refine am_iload_n (pc' := 716) dL_law_715 rfl rfl rfl ?_
  refine am_iconst (pc' := 717) dL_law_716 rfl rfl ?_
  refine am_iadd (pc' := 718) dL_law_717 rfl ⟨by omega, by omega⟩ ?_
  refine am_sld (pc' := 719) rfl dL_law_718 rfl (by omega) (by omega) ?_
  refine am_callVg (pc' := 722) (as := [_, _, _, _]) (ci := 6) (mc := mc) (bc := bc9) (ms := ms) (bs := bs9) rfl dL_law_719 rfl ok_X7_odds ml_L_85 im_X7_odds se_X7_odds rfl (Nat.le_of_ble_eq_true rfl) rfl (Nat.le_of_ble_eq_true rfl) (by first | assumption | exact ⟨by omega, by omega, rfl⟩) (t_odds hJ.1 hb) (fun r_719 ρ_719 h_719 q_719 g_719 e_719 => ?_)
  obtain ⟨qT, q1⟩ := q_719
  obtain ⟨A1, L1, S1, K1, i1, i2, i3, i4⟩ := id qT
  have f38 : ∀ x j, 38 ≤ x → x ≤ 57 → h_719 x j = h x j := fun x j z0 z1 => i2 x j (by omega)
  have m := lw_keepM hJ f38
  have md := lw_md hJ.1.1 m
  have hM1 := i1.2.1.2.1
  have hn1 := hM1.1
  obtain ⟨v, rfl⟩ : ∃ v, r_719 = some (am_L v) := by rcases q1 with ⟨_, e⟩ | ⟨_, e⟩ <;> exact ⟨_, e⟩
  refine am_aload_n (pc' := 723) dL_law_722 rfl rfl rfl ?_
  refine am_aload_n (pc' := 724) dL_law_723 rfl rfl rfl ?_
  refine am_iload_n (pc' := 725) dL_law_724 rfl rfl rfl ?_
  refine am_iconst (pc' := 726) dL_law_725 rfl rfl ?_
  refine am_iadd (pc' := 727) dL_law_726 rfl ⟨by omega, by omega⟩ ?_
  refine am_sld (pc' := 728) rfl dL_law_727 rfl (by omega) (by omega) ?_
  refine am_aload_n (pc' := 729) dL_law_728 rfl rfl rfl ?_
  refine am_iload_n (pc' := 730) dL_law_729 rfl rfl rfl ?_
  refine am_iconst (pc' := 731) dL_law_730 rfl rfl ?_
  refine am_iadd (pc' := 732) dL_law_731 rfl ⟨by omega, by omega⟩ ?_
  refine am_sld (pc' := 733) rfl dL_law_732 rfl (by omega) (by omega) ?_
  refine am_aload_n (pc' := 734) dL_law_733 rfl rfl rfl ?_
  refine am_iload_n (pc' := 735) dL_law_734 rfl rfl rfl ?_
  refine am_iconst (pc' := 736) dL_law_735 rfl rfl ?_
  refine am_iadd (pc' := 737) dL_law_736 rfl ⟨by omega, by omega⟩ ?_
  refine am_sld (pc' := 738) rfl dL_law_737 rfl (by omega) (by omega) ?_
  refine am_aload_n (pc' := 739) dL_law_738 rfl rfl rfl ?_
  refine am_iload_n (pc' := 740) dL_law_739 rfl rfl rfl ?_
  refine am_iconst (pc' := 741) dL_law_740 rfl rfl ?_
  refine am_iadd (pc' := 742) dL_law_741 rfl ⟨by omega, by omega⟩ ?_
  refine am_sld (pc' := 743) rfl dL_law_742 rfl (by omega) (by omega) ?_
  refine am_callV0 (pc' := 746) (as := [_, _, _, _]) (ci := 7)  rfl dL_law_743 rfl ok_X8_odds ml_L_89 im_X8_odds se_X8_odds rfl (Nat.le_of_ble_eq_true rfl) rfl (Nat.le_of_ble_eq_true rfl) (by first | assumption | exact ⟨by omega, by omega, rfl⟩) (t8_odds hM1 md.1) (fun r_743 ρ_743 h_743 q_743 g_743 e_743 => ?_)
  obtain ⟨rfl, f2, q2⟩ := q_743
  rw [m.1.1, m.1.2.1, lw_nx m, lw_N m] at q2
  have hr := lw_two q1 q2
  subst hr
  obtain ⟨A2, L2, S2, K2, J2, p1, p2⟩ := jt_T2 hJ qT f2 b3
  refine am_lcmp_eq (pc1 := 747) (pc' := 750) (tgt := 1096) dL_law_746 rfl dL_law_747 rfl rfl (fun _ => ?_) (fun c => absurd rfl c)
  exact am_WPle p1 p2 (kk _ _ _ _ _ _ J2)
