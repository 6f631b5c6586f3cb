/-! the law, case by case -/
theorem lw_c17 {ρ h : am_H} {Lx : Nat} {xs : Int → Int} {A L S K i : Int} {Q : am_Q} (hi : 0 ≤ i ∧ i + 6 ≤ (Lx : Int)) (hLx : Lx ≤ 3072) (hJ : lw_J ρ h A L S K) (kk : ∀ ρ h A L S K, lw_J ρ h A L S K → am_WP (mL_law Lx xs) (lw_pc L K) (lw_ps L K) 1096 [some (am_R (-1)), some (am_R 1), some (am_R 38), some (am_I i)] [] ρ h Q) : am_WP (mL_law Lx xs) (lw_pc L K) (lw_ps L K) 752 [some (am_R (-1)), some (am_R 1), some (am_R 38), some (am_I i)] [] ρ h Q := by
  have hC := hJ.1.2.1.1
  have hM := hJ.1.2.1.2.1
  have hn58 := hC.1
  refine am_aload_n (pc' := 753) dL_law_752 rfl rfl rfl ?_
  refine am_aload_n (pc' := 754) dL_law_753 rfl rfl rfl ?_
  refine am_iload_n (pc' := 755) dL_law_754 rfl rfl rfl ?_
  refine am_iconst (pc' := 756) dL_law_755 rfl rfl ?_
  refine am_iadd (pc' := 757) dL_law_756 rfl ⟨by omega, by omega⟩ ?_
  refine am_sld (pc' := 758) rfl dL_law_757 rfl (by omega) (by omega) ?_
  refine am_aload_n (pc' := 759) dL_law_758 rfl rfl rfl ?_
  refine am_iload_n (pc' := 760) dL_law_759 rfl rfl rfl ?_
  refine am_iconst (pc' := 761) dL_law_760 rfl rfl ?_
  refine am_iadd (pc' := 762) dL_law_761 rfl ⟨by omega, by omega⟩ ?_
  refine am_sld (pc' := 763) rfl dL_law_762 rfl (by omega) (by omega) ?_
  refine am_aload_n (pc' := 764) dL_law_763 rfl rfl rfl ?_
  refine am_iload_n (pc' := 765) dL_law_764 rfl rfl rfl ?_
  refine am_iconst (pc' := 766) dL_law_765 rfl rfl ?_
  refine am_iadd (pc' := 767) dL_law_766 rfl ⟨by omega, by omega⟩ ?_
  refine am_sld (pc' := 768) rfl dL_law_767 rfl (by omega) (by omega) ?_
  refine am_callV0 (pc' := 771) (as := [_, _, _]) (ci := 6)  rfl dL_law_768 rfl ok_X7_sheet ml_L_90 im_X7_sheet se_X7_sheet rfl (Nat.le_of_ble_eq_true rfl) rfl (Nat.le_of_ble_eq_true rfl) (by first | assumption | exact ⟨by omega, by omega, rfl⟩) (t_sheet hC) (fun r_768 ρ_768 h_768 q_768 g_768 e_768 => ?_)
  obtain ⟨rfl, q1⟩ := q_768
  have f38 : ∀ x j, 38 ≤ x → x ≤ 57 → h_768 x j = h x j := fun x j z0 z1 => by
    rcases q1 with ⟨_, _, e⟩ | ⟨_, _, _, e⟩ | ⟨_, _, _, _, e⟩ | ⟨w, _, _, _, c, _⟩
    · rw [e]; exact am_u_n (by omega)
    · rw [e]; exact am_u_n (by omega)
    · rw [e]; exact am_u_n (by omega)
    · rw [c x j (by simp; omega)]; exact am_u_n (by omega)
  have m := lw_keepM hJ f38
  have md := lw_md hJ.1.1 m
  obtain ⟨v, rfl⟩ : ∃ v, r_768 = some (am_I v) := by rcases q1 with ⟨_, e, _⟩ | ⟨_, _, e, _⟩ | ⟨_, _, _, e, _⟩ | ⟨_, _, _, e, _⟩ <;> exact ⟨_, e⟩
  refine am_aload_n (pc' := 772) dL_law_771 rfl rfl rfl ?_
  refine am_aload_n (pc' := 773) dL_law_772 rfl rfl rfl ?_
  refine am_iload_n (pc' := 774) dL_law_773 rfl rfl rfl ?_
  refine am_iconst (pc' := 775) dL_law_774 rfl rfl ?_
  refine am_iadd (pc' := 776) dL_law_775 rfl ⟨by omega, by omega⟩ ?_
  refine am_sld (pc' := 777) rfl dL_law_776 rfl (by omega) (by omega) ?_
  refine am_aload_n (pc' := 778) dL_law_777 rfl rfl rfl ?_
  refine am_iload_n (pc' := 779) dL_law_778 rfl rfl rfl ?_
  refine am_iconst (pc' := 780) dL_law_779 rfl rfl ?_
  refine am_iadd (pc' := 781) dL_law_780 rfl ⟨by omega, by omega⟩ ?_
  refine am_sld (pc' := 782) rfl dL_law_781 rfl (by omega) (by omega) ?_
  refine am_aload_n (pc' := 783) dL_law_782 rfl rfl rfl ?_
  refine am_iload_n (pc' := 784) dL_law_783 rfl rfl rfl ?_
  refine am_iconst (pc' := 785) dL_law_784 rfl rfl ?_
  refine am_iadd (pc' := 786) dL_law_785 rfl ⟨by omega, by omega⟩ ?_
  refine am_sld (pc' := 787) rfl dL_law_786 rfl (by omega) (by omega) ?_
  refine am_callV0 (pc' := 790) (as := [_, _, _]) (ci := 7)  rfl dL_law_787 rfl ok_X8_sheet ml_L_93 im_X8_sheet se_X8_sheet rfl (Nat.le_of_ble_eq_true rfl) rfl (Nat.le_of_ble_eq_true rfl) (by first | assumption | exact ⟨by omega, by omega, rfl⟩) (t8_sheet hM) (fun r_787 ρ_787 h_787 q_787 g_787 e_787 => ?_)
  obtain ⟨rfl, q2⟩ := q_787
  obtain ⟨hr, J2⟩ := jt_sheet hJ q1 q2
  subst hr
  refine am_icmp_eq (pc' := 793) (tgt := 1096) dL_law_790 rfl rfl (fun _ => ?_) (fun c => absurd rfl c)
  exact kk _ _ _ _ _ _ J2
theorem lw_c18 {ρ h : am_H} {Lx : Nat} {xs : Int → Int} {A L S K i : Int} {Q : am_Q} (hi : 0 ≤ i ∧ i + 6 ≤ (Lx : Int)) (hLx : Lx ≤ 3072) (hJ : lw_J ρ h A L S K) (kk : ∀ ρ h A L S K, lw_J ρ h A L S K → am_WP (mL_law Lx xs) (lw_pc L K) (lw_ps L K) 1096 [some (am_R (-1)), some (am_R 1), some (am_R 38), some (am_I i)] [] ρ h Q) : am_WP (mL_law Lx xs) (lw_pc L K) (lw_ps L K) 795 [some (am_R (-1)), some (am_R 1), some (am_R 38), some (am_I i)] [] ρ h Q := by
  have hC := hJ.1.2.1.1
  have hM := hJ.1.2.1.2.1
  have hn58 := hC.1
  refine am_aload_n (pc' := 796) dL_law_795 rfl rfl rfl ?_
  refine am_aload_n (pc' := 797) dL_law_796 rfl rfl rfl ?_
  refine am_iload_n (pc' := 798) dL_law_797 rfl rfl rfl ?_
  refine am_iconst (pc' := 799) dL_law_798 rfl rfl ?_
  refine am_iadd (pc' := 800) dL_law_799 rfl ⟨by omega, by omega⟩ ?_
  refine am_sld (pc' := 801) rfl dL_law_800 rfl (by omega) (by omega) ?_
  refine am_callV0 (pc' := 804) (as := [_]) (ci := 6)  rfl dL_law_801 rfl ok_X7_lose ml_L_94 im_X7_lose se_X7_lose rfl (Nat.le_of_ble_eq_true rfl) rfl (Nat.le_of_ble_eq_true rfl) (by first | assumption | exact ⟨by omega, by omega, rfl⟩) (t_lose hC) (fun r_801 ρ_801 h_801 q_801 g_801 e_801 => ?_)
  obtain ⟨rfl, q1⟩ := q_801
  have f38 : ∀ x j, 38 ≤ x → x ≤ 57 → h_801 x j = h x j := fun x j z0 z1 => by
    rcases q1 with ⟨_, _, e⟩ | ⟨w, _, e⟩
    · rw [e]
    · rw [e, am_u_n (by omega)]; exact am_u_n (by omega)
  have m := lw_keepM hJ f38
  have md := lw_md hJ.1.1 m
  obtain ⟨v, rfl⟩ : ∃ v, r_801 = some (am_I v) := by rcases q1 with ⟨_, e, _⟩ | ⟨_, e, _⟩ <;> exact ⟨_, e⟩
  refine am_aload_n (pc' := 805) dL_law_804 rfl rfl rfl ?_
  refine am_aload_n (pc' := 806) dL_law_805 rfl rfl rfl ?_
  refine am_iload_n (pc' := 807) dL_law_806 rfl rfl rfl ?_
  refine am_iconst (pc' := 808) dL_law_807 rfl rfl ?_
  refine am_iadd (pc' := 809) dL_law_808 rfl ⟨by omega, by omega⟩ ?_
  refine am_sld (pc' := 810) rfl dL_law_809 rfl (by omega) (by omega) ?_
  refine am_callV0 (pc' := 813) (as := [_]) (ci := 7)  rfl dL_law_810 rfl ok_X8_lose ml_L_97 im_X8_lose se_X8_lose rfl (Nat.le_of_ble_eq_true rfl) rfl (Nat.le_of_ble_eq_true rfl) (by first | assumption | exact ⟨by omega, by omega, rfl⟩) (t8_lose hM) (fun r_810 ρ_810 h_810 q_810 g_810 e_810 => ?_)
  obtain ⟨rfl, q2⟩ := q_810
  obtain ⟨hr, J2⟩ := jt_lose hJ q1 q2
  subst hr
  refine am_icmp_eq (pc' := 816) (tgt := 1096) dL_law_813 rfl rfl (fun _ => ?_) (fun c => absurd rfl c)
  exact kk _ _ _ _ _ _ J2
theorem lw_c19 {ρ h : am_H} {Lx : Nat} {xs : Int → Int} {A L S K i : Int} {Q : am_Q} (hi : 0 ≤ i ∧ i + 6 ≤ (Lx : Int)) (hLx : Lx ≤ 3072) (hJ : lw_J ρ h A L S K) (kk : ∀ ρ h A L S K, lw_J ρ h A L S K → am_WP (mL_law Lx xs) (lw_pc L K) (lw_ps L K) 1096 [some (am_R (-1)), some (am_R 1), some (am_R 38), some (am_I i)] [] ρ h Q) : am_WP (mL_law Lx xs) (lw_pc L K) (lw_ps L K) 818 [some (am_R (-1)), some (am_R 1), some (am_R 38), some (am_I i)] [] ρ h Q := by
  have hC := hJ.1.2.1.1
  have hM := hJ.1.2.1.2.1
  have hn58 := hC.1
  refine am_aload_n (pc' := 819) dL_law_818 rfl rfl rfl ?_
  refine am_aload_n (pc' := 820) dL_law_819 rfl rfl rfl ?_
  refine am_iload_n (pc' := 821) dL_law_820 rfl rfl rfl ?_
  refine am_iconst (pc' := 822) dL_law_821 rfl rfl ?_
  refine am_iadd (pc' := 823) dL_law_822 rfl ⟨by omega, by omega⟩ ?_
  refine am_sld (pc' := 824) rfl dL_law_823 rfl (by omega) (by omega) ?_
  refine am_aload_n (pc' := 825) dL_law_824 rfl rfl rfl ?_
  refine am_iload_n (pc' := 826) dL_law_825 rfl rfl rfl ?_
  refine am_iconst (pc' := 827) dL_law_826 rfl rfl ?_
  refine am_iadd (pc' := 828) dL_law_827 rfl ⟨by omega, by omega⟩ ?_
  refine am_sld (pc' := 829) rfl dL_law_828 rfl (by omega) (by omega) ?_
  refine am_aload_n (pc' := 830) dL_law_829 rfl rfl rfl ?_
  refine am_iload_n (pc' := 831) dL_law_830 rfl rfl rfl ?_
  refine am_iconst (pc' := 832) dL_law_831 rfl rfl ?_
  refine am_iadd (pc' := 833) dL_law_832 rfl ⟨by omega, by omega⟩ ?_
  refine am_sld (pc' := 834) rfl dL_law_833 rfl (by omega) (by omega) ?_
  refine am_callV0 (pc' := 837) (as := [_, _, _]) (ci := 6)  rfl dL_law_834 rfl ok_X7_put ml_L_98 im_X7_put se_X7_put rfl (Nat.le_of_ble_eq_true rfl) rfl (Nat.le_of_ble_eq_true rfl) (by first | assumption | exact ⟨by omega, by omega, rfl⟩) (t_put hC hJ.1.1.2.1) (fun r_834 ρ_834 h_834 q_834 g_834 e_834 => ?_)
  obtain ⟨rfl, q1⟩ := q_834
  have f38 : ∀ x j, 38 ≤ x → x ≤ 57 → h_834 x j = h x j := fun x j z0 z1 => by
    rcases q1 with ⟨_, _, e⟩ | ⟨_, _, _, e⟩ | ⟨w, _, _, e⟩
    · rw [e]; exact am_u_n (by omega)
    · rw [e]; exact am_u_n (by omega)
    · rw [e, am_u_n (by omega)]; exact am_u_n (by omega)
  have m := lw_keepM hJ f38
  have md := lw_md hJ.1.1 m
  obtain ⟨v, rfl⟩ : ∃ v, r_834 = some (am_I v) := by rcases q1 with ⟨_, e, _⟩ | ⟨_, _, e, _⟩ | ⟨_, _, e, _⟩ <;> exact ⟨_, e⟩
  refine am_aload_n (pc' := 838) dL_law_837 rfl rfl rfl ?_
  refine am_aload_n (pc' := 839) dL_law_838 rfl rfl rfl ?_
  refine am_iload_n (pc' := 840) dL_law_839 rfl rfl rfl ?_
  refine am_iconst (pc' := 841) dL_law_840 rfl rfl ?_
  refine am_iadd (pc' := 842) dL_law_841 rfl ⟨by omega, by omega⟩ ?_
  refine am_sld (pc' := 843) rfl dL_law_842 rfl (by omega) (by omega) ?_
  refine am_aload_n (pc' := 844) dL_law_843 rfl rfl rfl ?_
  refine am_iload_n (pc' := 845) dL_law_844 rfl rfl rfl ?_
  refine am_iconst (pc' := 846) dL_law_845 rfl rfl ?_
  refine am_iadd (pc' := 847) dL_law_846 rfl ⟨by omega, by omega⟩ ?_
  refine am_sld (pc' := 848) rfl dL_law_847 rfl (by omega) (by omega) ?_
  refine am_aload_n (pc' := 849) dL_law_848 rfl rfl rfl ?_
  refine am_iload_n (pc' := 850) dL_law_849 rfl rfl rfl ?_
  refine am_iconst (pc' := 851) dL_law_850 rfl rfl ?_
  refine am_iadd (pc' := 852) dL_law_851 rfl ⟨by omega, by omega⟩ ?_
  refine am_sld (pc' := 853) rfl dL_law_852 rfl (by omega) (by omega) ?_
  refine am_callV0 (pc' := 856) (as := [_, _, _]) (ci := 7)  rfl dL_law_853 rfl ok_X8_put ml_L_101 im_X8_put se_X8_put rfl (Nat.le_of_ble_eq_true rfl) rfl (Nat.le_of_ble_eq_true rfl) (by first | assumption | exact ⟨by omega, by omega, rfl⟩) (t8_put hM md.2.2) (fun r_853 ρ_853 h_853 q_853 g_853 e_853 => ?_)
  obtain ⟨rfl, q2⟩ := q_853
  obtain ⟨hr, J2⟩ := jt_put hJ q1 f38 q2
  subst hr
  refine am_icmp_eq (pc' := 859) (tgt := 1096) dL_law_856 rfl rfl (fun _ => ?_) (fun c => absurd rfl c)
  exact kk _ _ _ _ _ _ J2
theorem lw_c20 {ρ h : am_H} {Lx : Nat} {xs : Int → Int} {A L S K i : Int} {Q : am_Q} (hi : 0 ≤ i ∧ i + 6 ≤ (Lx : Int)) (hLx : Lx ≤ 3072) (hJ : lw_J ρ h A L S K) (kk : ∀ ρ h A L S K, lw_J ρ h A L S K → am_WP (mL_law Lx xs) (lw_pc L K) (lw_ps L K) 1096 [some (am_R (-1)), some (am_R 1), some (am_R 38), some (am_I i)] [] ρ h Q) : am_WP (mL_law Lx xs) (lw_pc L K) (lw_ps L K) 861 [some (am_R (-1)), some (am_R 1), some (am_R 38), some (am_I i)] [] ρ h Q := by
  have hC := hJ.1.2.1.1
  have hM := hJ.1.2.1.2.1
  have hn58 := hC.1
  refine am_aload_n (pc' := 862) dL_law_861 rfl rfl rfl ?_
  refine am_aload_n (pc' := 863) dL_law_862 rfl rfl rfl ?_
  refine am_iload_n (pc' := 864) dL_law_863 rfl rfl rfl ?_
  refine am_iconst (pc' := 865) dL_law_864 rfl rfl ?_
  refine am_iadd (pc' := 866) dL_law_865 rfl ⟨by omega, by omega⟩ ?_
  refine am_sld (pc' := 867) rfl dL_law_866 rfl (by omega) (by omega) ?_
  refine am_aload_n (pc' := 868) dL_law_867 rfl rfl rfl ?_
  refine am_iload_n (pc' := 869) dL_law_868 rfl rfl rfl ?_
  refine am_iconst (pc' := 870) dL_law_869 rfl rfl ?_
  refine am_iadd (pc' := 871) dL_law_870 rfl ⟨by omega, by omega⟩ ?_
  refine am_sld (pc' := 872) rfl dL_law_871 rfl (by omega) (by omega) ?_
  refine am_aload_n (pc' := 873) dL_law_872 rfl rfl rfl ?_
  refine am_iload_n (pc' := 874) dL_law_873 rfl rfl rfl ?_
  refine am_iconst (pc' := 875) dL_law_874 rfl rfl ?_
  refine am_iadd (pc' := 876) dL_law_875 rfl ⟨by omega, by omega⟩ ?_
  refine am_sld (pc' := 877) rfl dL_law_876 rfl (by omega) (by omega) ?_
  refine am_callV0 (pc' := 880) (as := [_, _, _]) (ci := 6)  rfl dL_law_877 rfl ok_X7_cell ml_L_102 im_X7_cell se_X7_cell rfl (Nat.le_of_ble_eq_true rfl) rfl (Nat.le_of_ble_eq_true rfl) (by first | assumption | exact ⟨by omega, by omega, rfl⟩) (t_cell hC hJ.1.1.2.1) (fun r_877 ρ_877 h_877 q_877 g_877 e_877 => ?_)
  obtain ⟨rfl, q1⟩ := q_877
  have f38 : ∀ x j, 38 ≤ x → x ≤ 57 → h_877 x j = h x j := fun x j z0 z1 => by
    rcases q1 with ⟨_, _, e⟩ | ⟨_, e, _⟩
    · rw [e]; exact am_u_n (by omega)
    · rw [e]; exact am_u_n (by omega)
  have m := lw_keepM hJ f38
  have md := lw_md hJ.1.1 m
  obtain ⟨v, rfl⟩ : ∃ v, r_877 = some (am_L v) := by rcases q1 with ⟨_, e, _⟩ | ⟨_, _, e⟩ <;> exact ⟨_, e⟩
  refine am_aload_n (pc' := 881) dL_law_880 rfl rfl rfl ?_
  refine am_aload_n (pc' := 882) dL_law_881 rfl rfl rfl ?_
  refine am_iload_n (pc' := 883) dL_law_882 rfl rfl rfl ?_
  refine am_iconst (pc' := 884) dL_law_883 rfl rfl ?_
  refine am_iadd (pc' := 885) dL_law_884 rfl ⟨by omega, by omega⟩ ?_
  refine am_sld (pc' := 886) rfl dL_law_885 rfl (by omega) (by omega) ?_
  refine am_aload_n (pc' := 887) dL_law_886 rfl rfl rfl ?_
  refine am_iload_n (pc' := 888) dL_law_887 rfl rfl rfl ?_
  refine am_iconst (pc' := 889) dL_law_888 rfl rfl ?_
  refine am_iadd (pc' := 890) dL_law_889 rfl ⟨by omega, by omega⟩ ?_
  refine am_sld (pc' := 891) rfl dL_law_890 rfl (by omega) (by omega) ?_
  refine am_aload_n (pc' := 892) dL_law_891 rfl rfl rfl ?_
  refine am_iload_n (pc' := 893) dL_law_892 rfl rfl rfl ?_
  refine am_iconst (pc' := 894) dL_law_893 rfl rfl ?_
  refine am_iadd (pc' := 895) dL_law_894 rfl ⟨by omega, by omega⟩ ?_
  refine am_sld (pc' := 896) rfl dL_law_895 rfl (by omega) (by omega) ?_
  refine am_callV0 (pc' := 899) (as := [_, _, _]) (ci := 7)  rfl dL_law_896 rfl ok_X8_cell ml_L_106 im_X8_cell se_X8_cell rfl (Nat.le_of_ble_eq_true rfl) rfl (Nat.le_of_ble_eq_true rfl) (by first | assumption | exact ⟨by omega, by omega, rfl⟩) (t8_cell hM md.2.2) (fun r_896 ρ_896 h_896 q_896 g_896 e_896 => ?_)
  obtain ⟨rfl, q2⟩ := q_896
  obtain ⟨hr, J2⟩ := jt_cell hJ q1 f38 q2
  subst hr
  refine am_lcmp_eq (pc1 := 900) (pc' := 903) (tgt := 1096) dL_law_899 rfl dL_law_900 rfl rfl (fun _ => ?_) (fun c => absurd rfl c)
  exact kk _ _ _ _ _ _ J2
theorem lw_c21 {ρ h : am_H} {Lx : Nat} {xs : Int → Int} {A L S K i : Int} {Q : am_Q} (hi : 0 ≤ i ∧ i + 6 ≤ (Lx : Int)) (hLx : Lx ≤ 3072) (hJ : lw_J ρ h A L S K) (kk : ∀ ρ h A L S K, lw_J ρ h A L S K → am_WP (mL_law Lx xs) (lw_pc L K) (lw_ps L K) 1096 [some (am_R (-1)), some (am_R 1), some (am_R 38), some (am_I i)] [] ρ h Q) : am_WP (mL_law Lx xs) (lw_pc L K) (lw_ps L K) 905 [some (am_R (-1)), some (am_R 1), some (am_R 38), some (am_I i)] [] ρ h Q := by
  have hC := hJ.1.2.1.1
  have hM := hJ.1.2.1.2.1
  have hn58 := hC.1
  refine am_aload_n (pc' := 906) dL_law_905 rfl rfl rfl ?_
  refine am_aload_n (pc' := 907) dL_law_906 rfl rfl rfl ?_
  refine am_iload_n (pc' := 908) dL_law_907 rfl rfl rfl ?_
  refine am_iconst (pc' := 909) dL_law_908 rfl rfl ?_
  refine am_iadd (pc' := 910) dL_law_909 rfl ⟨by omega, by omega⟩ ?_
  refine am_sld (pc' := 911) rfl dL_law_910 rfl (by omega) (by omega) ?_
  refine am_aload_n (pc' := 912) dL_law_911 rfl rfl rfl ?_
  refine am_iload_n (pc' := 913) dL_law_912 rfl rfl rfl ?_
  refine am_iconst (pc' := 914) dL_law_913 rfl rfl ?_
  refine am_iadd (pc' := 915) dL_law_914 rfl ⟨by omega, by omega⟩ ?_
  refine am_sld (pc' := 916) rfl dL_law_915 rfl (by omega) (by omega) ?_
  refine am_aload_n (pc' := 917) dL_law_916 rfl rfl rfl ?_
  refine am_iload_n (pc' := 918) dL_law_917 rfl rfl rfl ?_
  refine am_iconst (pc' := 919) dL_law_918 rfl rfl ?_
  refine am_iadd (pc' := 920) dL_law_919 rfl ⟨by omega, by omega⟩ ?_
  refine am_sld (pc' := 921) rfl dL_law_920 rfl (by omega) (by omega) ?_
  refine am_aload_n (pc' := 922) dL_law_921 rfl rfl rfl ?_
  refine am_iload_n (pc' := 923) dL_law_922 rfl rfl rfl ?_
  refine am_iconst (pc' := 924) dL_law_923 rfl rfl ?_
  refine am_iadd (pc' := 925) dL_law_924 rfl ⟨by omega, by omega⟩ ?_
  refine am_sld (pc' := 926) rfl dL_law_925 rfl (by omega) (by omega) ?_
  refine am_aload_n (pc' := 927) dL_law_926 rfl rfl rfl ?_
  refine am_iload_n (pc' := 928) dL_law_927 rfl rfl rfl ?_
  refine am_iconst (pc' := 929) dL_law_928 rfl rfl ?_
  refine am_iadd (pc' := 930) dL_law_929 rfl ⟨by omega, by omega⟩ ?_
  refine am_sld (pc' := 931) rfl dL_law_930 rfl (by omega) (by omega) ?_
  refine am_callV0 (pc' := 934) (as := [_, _, _, _, _]) (ci := 6)  rfl dL_law_931 rfl ok_X7_copy ml_L_107 im_X7_copy se_X7_copy rfl (Nat.le_of_ble_eq_true rfl) rfl (Nat.le_of_ble_eq_true rfl) (by first | assumption | exact ⟨by omega, by omega, rfl⟩) (t_copy hC hJ.1.1.2.1) (fun r_931 ρ_931 h_931 q_931 g_931 e_931 => ?_)
  obtain ⟨rfl, q1⟩ := q_931
  have f38 : ∀ x j, 38 ≤ x → x ≤ 57 → h_931 x j = h x j := fun x j z0 z1 => by
    rcases q1 with ⟨_, _, e⟩ | ⟨_, _, e, _⟩ | ⟨w, _, e, _⟩
    · rw [e]; exact am_u_n (by omega)
    · rw [e]; exact am_u_n (by omega)
    · rw [e]; unfold am_cpy; rw [if_neg (by omega)]; exact am_u_n (by omega)
  have m := lw_keepM hJ f38
  have md := lw_md hJ.1.1 m
  obtain ⟨v, rfl⟩ : ∃ v, r_931 = some (am_I v) := by rcases q1 with ⟨_, e, _⟩ | ⟨_, _, _, e⟩ | ⟨_, _, _, e⟩ <;> exact ⟨_, e⟩
  refine am_aload_n (pc' := 935) dL_law_934 rfl rfl rfl ?_
  refine am_aload_n (pc' := 936) dL_law_935 rfl rfl rfl ?_
  refine am_iload_n (pc' := 937) dL_law_936 rfl rfl rfl ?_
  refine am_iconst (pc' := 938) dL_law_937 rfl rfl ?_
  refine am_iadd (pc' := 939) dL_law_938 rfl ⟨by omega, by omega⟩ ?_
  refine am_sld (pc' := 940) rfl dL_law_939 rfl (by omega) (by omega) ?_
  refine am_aload_n (pc' := 941) dL_law_940 rfl rfl rfl ?_
  refine am_iload_n (pc' := 942) dL_law_941 rfl rfl rfl ?_
  refine am_iconst (pc' := 943) dL_law_942 rfl rfl ?_
  refine am_iadd (pc' := 944) dL_law_943 rfl ⟨by omega, by omega⟩ ?_
  refine am_sld (pc' := 945) rfl dL_law_944 rfl (by omega) (by omega) ?_
  refine am_aload_n (pc' := 946) dL_law_945 rfl rfl rfl ?_
  refine am_iload_n (pc' := 947) dL_law_946 rfl rfl rfl ?_
  refine am_iconst (pc' := 948) dL_law_947 rfl rfl ?_
  refine am_iadd (pc' := 949) dL_law_948 rfl ⟨by omega, by omega⟩ ?_
  refine am_sld (pc' := 950) rfl dL_law_949 rfl (by omega) (by omega) ?_
  refine am_aload_n (pc' := 951) dL_law_950 rfl rfl rfl ?_
  refine am_iload_n (pc' := 952) dL_law_951 rfl rfl rfl ?_
  refine am_iconst (pc' := 953) dL_law_952 rfl rfl ?_
  refine am_iadd (pc' := 954) dL_law_953 rfl ⟨by omega, by omega⟩ ?_
  refine am_sld (pc' := 955) rfl dL_law_954 rfl (by omega) (by omega) ?_
  refine am_aload_n (pc' := 956) dL_law_955 rfl rfl rfl ?_
  refine am_iload_n (pc' := 957) dL_law_956 rfl rfl rfl ?_
  refine am_iconst (pc' := 958) dL_law_957 rfl rfl ?_
  refine am_iadd (pc' := 959) dL_law_958 rfl ⟨by omega, by omega⟩ ?_
  refine am_sld (pc' := 960) rfl dL_law_959 rfl (by omega) (by omega) ?_
  refine am_callV0 (pc' := 963) (as := [_, _, _, _, _]) (ci := 7)  rfl dL_law_960 rfl ok_X8_copy ml_L_110 im_X8_copy se_X8_copy rfl (Nat.le_of_ble_eq_true rfl) rfl (Nat.le_of_ble_eq_true rfl) (by first | assumption | exact ⟨by omega, by omega, rfl⟩) (t8_copy hM md.2.2) (fun r_960 ρ_960 h_960 q_960 g_960 e_960 => ?_)
  obtain ⟨rfl, q2⟩ := q_960
  obtain ⟨hr, J2⟩ := jt_copy hJ q1 f38 q2
  subst hr
  refine am_icmp_eq (pc' := 966) (tgt := 1096) dL_law_963 rfl rfl (fun _ => ?_) (fun c => absurd rfl c)
  exact kk _ _ _ _ _ _ J2
