/-! the law, case by case -/
theorem lw_c22 {ρ h : am_H} {Lx : Nat} {xs : Int → Int} {A L S K i : Int} {Q : am_Q} (hi : 0 ≤ i ∧ i + 6 ≤ (Lx : Int)) (hLx : Lx ≤ 3072) (hJ : lw_J ρ h A L S K) (kk : ∀ ρ h A L S K, lw_J ρ h A L S K → am_WP (mL_law Lx xs) (lw_pc L K) (lw_ps L K) 1096 [some (am_R (-1)), some (am_R 1), some (am_R 38), some (am_I i)] [] ρ h Q) : am_WP (mL_law Lx xs) (lw_pc L K) (lw_ps L K) 968 [some (am_R (-1)), some (am_R 1), some (am_R 38), some (am_I i)] [] ρ h Q := by
  have hC := hJ.1.2.1.1
  have hM := hJ.1.2.1.2.1
  have hn58 := hC.1
  refine am_aload_n (pc' := 969) dL_law_968 rfl rfl rfl ?_
  refine am_aload_n (pc' := 970) dL_law_969 rfl rfl rfl ?_
  refine am_iload_n (pc' := 971) dL_law_970 rfl rfl rfl ?_
  refine am_iconst (pc' := 972) dL_law_971 rfl rfl ?_
  refine am_iadd (pc' := 973) dL_law_972 rfl ⟨by omega, by omega⟩ ?_
  refine am_sld (pc' := 974) rfl dL_law_973 rfl (by omega) (by omega) ?_
  refine am_callV0 (pc' := 977) (as := [_]) (ci := 6)  rfl dL_law_974 rfl ok_X7_tell ml_L_111 im_X7_tell se_X7_tell rfl (Nat.le_of_ble_eq_true rfl) rfl (Nat.le_of_ble_eq_true rfl) (by first | assumption | exact ⟨by omega, by omega, rfl⟩) (t_tell hC hJ.1.1.1) (fun r_974 ρ_974 h_974 q_974 g_974 e_974 => ?_)
  obtain ⟨rfl, rfl, e1⟩ := q_974
  have f38 : ∀ x j, 38 ≤ x → x ≤ 57 → h_974 x j = h x j := fun x j z0 z1 => by rw [e1]; exact am_u_n (by omega)
  have m := lw_keepM hJ f38
  have md := lw_md hJ.1.1 m
  refine am_aload_n (pc' := 978) dL_law_977 rfl rfl rfl ?_
  refine am_aload_n (pc' := 979) dL_law_978 rfl rfl rfl ?_
  refine am_iload_n (pc' := 980) dL_law_979 rfl rfl rfl ?_
  refine am_iconst (pc' := 981) dL_law_980 rfl rfl ?_
  refine am_iadd (pc' := 982) dL_law_981 rfl ⟨by omega, by omega⟩ ?_
  refine am_sld (pc' := 983) rfl dL_law_982 rfl (by omega) (by omega) ?_
  refine am_callV0 (pc' := 986) (as := [_]) (ci := 7)  rfl dL_law_983 rfl ok_X8_tell ml_L_114 im_X8_tell se_X8_tell rfl (Nat.le_of_ble_eq_true rfl) rfl (Nat.le_of_ble_eq_true rfl) (by first | assumption | exact ⟨by omega, by omega, rfl⟩) (t8_tell hM md.1) (fun r_983 ρ_983 h_983 q_983 g_983 e_983 => ?_)
  obtain ⟨rfl, rfl, e2⟩ := q_983
  obtain ⟨e, J2⟩ := jt_tell hJ e1 e2
  refine am_icmp_eq (pc' := 989) (tgt := 1096) dL_law_986 rfl rfl (fun _ => ?_) (fun c => absurd e c)
  exact kk _ _ _ _ _ _ J2
theorem lw_c23 {ρ h : am_H} {Lx : Nat} {xs : Int → Int} {A L S K i : Int} {Q : am_Q} (hi : 0 ≤ i ∧ i + 6 ≤ (Lx : Int)) (hLx : Lx ≤ 3072) (hJ : lw_J ρ h A L S K) (kk : ∀ ρ h A L S K, lw_J ρ h A L S K → am_WP (mL_law Lx xs) (lw_pc L K) (lw_ps L K) 1096 [some (am_R (-1)), some (am_R 1), some (am_R 38), some (am_I i)] [] ρ h Q) : am_WP (mL_law Lx xs) (lw_pc L K) (lw_ps L K) 991 [some (am_R (-1)), some (am_R 1), some (am_R 38), some (am_I i)] [] ρ h Q := by
  have hC := hJ.1.2.1.1
  have hM := hJ.1.2.1.2.1
  have hn58 := hC.1
  refine am_aload_n (pc' := 992) dL_law_991 rfl rfl rfl ?_
  refine am_aload_n (pc' := 993) dL_law_992 rfl rfl rfl ?_
  refine am_iload_n (pc' := 994) dL_law_993 rfl rfl rfl ?_
  refine am_iconst (pc' := 995) dL_law_994 rfl rfl ?_
  refine am_iadd (pc' := 996) dL_law_995 rfl ⟨by omega, by omega⟩ ?_
  refine am_sld (pc' := 997) rfl dL_law_996 rfl (by omega) (by omega) ?_
  refine am_callV0 (pc' := 1000) (as := [_]) (ci := 6)  rfl dL_law_997 rfl ok_X7_call ml_L_115 im_X7_call se_X7_call rfl (Nat.le_of_ble_eq_true rfl) rfl (Nat.le_of_ble_eq_true rfl) (by first | assumption | exact ⟨by omega, by omega, rfl⟩) (t_call hC hJ.1.1.1) (fun r_997 ρ_997 h_997 q_997 g_997 e_997 => ?_)
  obtain ⟨rfl, rfl, e1⟩ := q_997
  have f38 : ∀ x j, 38 ≤ x → x ≤ 57 → h_997 x j = h x j := fun x j z0 z1 => by rw [e1]; exact am_u_n (by omega)
  have m := lw_keepM hJ f38
  have md := lw_md hJ.1.1 m
  refine am_aload_n (pc' := 1001) dL_law_1000 rfl rfl rfl ?_
  refine am_aload_n (pc' := 1002) dL_law_1001 rfl rfl rfl ?_
  refine am_iload_n (pc' := 1003) dL_law_1002 rfl rfl rfl ?_
  refine am_iconst (pc' := 1004) dL_law_1003 rfl rfl ?_
  refine am_iadd (pc' := 1005) dL_law_1004 rfl ⟨by omega, by omega⟩ ?_
  refine am_sld (pc' := 1006) rfl dL_law_1005 rfl (by omega) (by omega) ?_
  refine am_callV0 (pc' := 1009) (as := [_]) (ci := 7)  rfl dL_law_1006 rfl ok_X8_call ml_L_118 im_X8_call se_X8_call rfl (Nat.le_of_ble_eq_true rfl) rfl (Nat.le_of_ble_eq_true rfl) (by first | assumption | exact ⟨by omega, by omega, rfl⟩) (t8_call hM md.1) (fun r_1006 ρ_1006 h_1006 q_1006 g_1006 e_1006 => ?_)
  obtain ⟨rfl, rfl, e2⟩ := q_1006
  obtain ⟨e, J2⟩ := jt_call hJ e1 e2
  refine am_icmp_eq (pc' := 1012) (tgt := 1096) dL_law_1009 rfl rfl (fun _ => ?_) (fun c => absurd e c)
  exact kk _ _ _ _ _ _ J2
theorem lw_c24 {ρ h : am_H} {Lx : Nat} {xs : Int → Int} {A L S K i : Int} {Q : am_Q} (hi : 0 ≤ i ∧ i + 6 ≤ (Lx : Int)) (hLx : Lx ≤ 3072) (hJ : lw_J ρ h A L S K) (kk : ∀ ρ h A L S K, lw_J ρ h A L S K → am_WP (mL_law Lx xs) (lw_pc L K) (lw_ps L K) 1096 [some (am_R (-1)), some (am_R 1), some (am_R 38), some (am_I i)] [] ρ h Q) : am_WP (mL_law Lx xs) (lw_pc L K) (lw_ps L K) 1014 [some (am_R (-1)), some (am_R 1), some (am_R 38), some (am_I i)] [] ρ h Q := by
  have hC := hJ.1.2.1.1
  have hM := hJ.1.2.1.2.1
  have hn58 := hC.1
  refine am_aload_n (pc' := 1015) dL_law_1014 rfl rfl rfl ?_
  refine am_aload_n (pc' := 1016) dL_law_1015 rfl rfl rfl ?_
  refine am_iload_n (pc' := 1017) dL_law_1016 rfl rfl rfl ?_
  refine am_iconst (pc' := 1018) dL_law_1017 rfl rfl ?_
  refine am_iadd (pc' := 1019) dL_law_1018 rfl ⟨by omega, by omega⟩ ?_
  refine am_sld (pc' := 1020) rfl dL_law_1019 rfl (by omega) (by omega) ?_
  refine am_aload_n (pc' := 1021) dL_law_1020 rfl rfl rfl ?_
  refine am_iload_n (pc' := 1022) dL_law_1021 rfl rfl rfl ?_
  refine am_iconst (pc' := 1023) dL_law_1022 rfl rfl ?_
  refine am_iadd (pc' := 1024) dL_law_1023 rfl ⟨by omega, by omega⟩ ?_
  refine am_sld (pc' := 1025) rfl dL_law_1024 rfl (by omega) (by omega) ?_
  refine am_callV0 (pc' := 1028) (as := [_, _]) (ci := 6)  rfl dL_law_1025 rfl ok_X7_as ml_L_119 im_X7_as se_X7_as rfl (Nat.le_of_ble_eq_true rfl) rfl (Nat.le_of_ble_eq_true rfl) (by first | assumption | exact ⟨by omega, by omega, rfl⟩) (t_as hC hJ.1.1.1) (fun r_1025 ρ_1025 h_1025 q_1025 g_1025 e_1025 => ?_)
  obtain ⟨rfl, rfl, e1⟩ := q_1025
  have f38 : ∀ x j, 38 ≤ x → x ≤ 57 → h_1025 x j = h x j := fun x j z0 z1 => by rw [e1]; exact am_u_n (by omega)
  have m := lw_keepM hJ f38
  have md := lw_md hJ.1.1 m
  refine am_aload_n (pc' := 1029) dL_law_1028 rfl rfl rfl ?_
  refine am_aload_n (pc' := 1030) dL_law_1029 rfl rfl rfl ?_
  refine am_iload_n (pc' := 1031) dL_law_1030 rfl rfl rfl ?_
  refine am_iconst (pc' := 1032) dL_law_1031 rfl rfl ?_
  refine am_iadd (pc' := 1033) dL_law_1032 rfl ⟨by omega, by omega⟩ ?_
  refine am_sld (pc' := 1034) rfl dL_law_1033 rfl (by omega) (by omega) ?_
  refine am_aload_n (pc' := 1035) dL_law_1034 rfl rfl rfl ?_
  refine am_iload_n (pc' := 1036) dL_law_1035 rfl rfl rfl ?_
  refine am_iconst (pc' := 1037) dL_law_1036 rfl rfl ?_
  refine am_iadd (pc' := 1038) dL_law_1037 rfl ⟨by omega, by omega⟩ ?_
  refine am_sld (pc' := 1039) rfl dL_law_1038 rfl (by omega) (by omega) ?_
  refine am_callV0 (pc' := 1042) (as := [_, _]) (ci := 7)  rfl dL_law_1039 rfl ok_X8_as ml_L_122 im_X8_as se_X8_as rfl (Nat.le_of_ble_eq_true rfl) rfl (Nat.le_of_ble_eq_true rfl) (by first | assumption | exact ⟨by omega, by omega, rfl⟩) (t8_as hM md.1) (fun r_1039 ρ_1039 h_1039 q_1039 g_1039 e_1039 => ?_)
  obtain ⟨rfl, rfl, e2⟩ := q_1039
  obtain ⟨e, J2⟩ := jt_as hJ e1 e2
  refine am_icmp_eq (pc' := 1045) (tgt := 1096) dL_law_1042 rfl rfl (fun _ => ?_) (fun c => absurd e c)
  exact kk _ _ _ _ _ _ J2
theorem lw_c25 {ρ h : am_H} {Lx : Nat} {xs : Int → Int} {A L S K i : Int} {Q : am_Q} (hi : 0 ≤ i ∧ i + 6 ≤ (Lx : Int)) (hLx : Lx ≤ 3072) (hJ : lw_J ρ h A L S K) (kk : ∀ ρ h A L S K, lw_J ρ h A L S K → am_WP (mL_law Lx xs) (lw_pc L K) (lw_ps L K) 1096 [some (am_R (-1)), some (am_R 1), some (am_R 38), some (am_I i)] [] ρ h Q) : am_WP (mL_law Lx xs) (lw_pc L K) (lw_ps L K) 1047 [some (am_R (-1)), some (am_R 1), some (am_R 38), some (am_I i)] [] ρ h Q := by
  have hC := hJ.1.2.1.1
  have hM := hJ.1.2.1.2.1
  have hn58 := hC.1
  refine am_aload_n (pc' := 1048) dL_law_1047 rfl rfl rfl ?_
  refine am_callVp (pc' := 1051) (as := []) (ci := 6)  rfl dL_law_1048 rfl ok_X7_trace ml_L_123 im_X7_trace se_X7_trace rfl (Nat.le_of_ble_eq_true rfl) rfl (Nat.le_of_ble_eq_true rfl) (by first | assumption | exact ⟨by omega, by omega, rfl⟩) (t_trace hC) ?_
  refine am_aload_n (pc' := 1052) dL_law_1051 rfl rfl rfl ?_
  refine am_callVp (pc' := 1055) (as := []) (ci := 7)  rfl dL_law_1052 rfl ok_X8_trace ml_L_127 im_X8_trace se_X8_trace rfl (Nat.le_of_ble_eq_true rfl) rfl (Nat.le_of_ble_eq_true rfl) (by first | assumption | exact ⟨by omega, by omega, rfl⟩) (t8_trace hM) ?_
  have e := hJ.2.1.2.2.2.1.symm
  have J2 := hJ
  refine am_icmp_eq (pc' := 1058) (tgt := 1096) dL_law_1055 rfl rfl (fun _ => ?_) (fun c => absurd e c)
  exact kk _ _ _ _ _ _ J2
theorem lw_c26 {ρ h : am_H} {Lx : Nat} {xs : Int → Int} {A L S K i : Int} {Q : am_Q} (hi : 0 ≤ i ∧ i + 6 ≤ (Lx : Int)) (hLx : Lx ≤ 3072) (hJ : lw_J ρ h A L S K) (kk : ∀ ρ h A L S K, lw_J ρ h A L S K → am_WP (mL_law Lx xs) (lw_pc L K) (lw_ps L K) 1096 [some (am_R (-1)), some (am_R 1), some (am_R 38), some (am_I i)] [] ρ h Q) : am_WP (mL_law Lx xs) (lw_pc L K) (lw_ps L K) 1060 [some (am_R (-1)), some (am_R 1), some (am_R 38), some (am_I i)] [] ρ h Q := by
  have hC := hJ.1.2.1.1
  have hM := hJ.1.2.1.2.1
  have hn58 := hC.1
  refine am_aload_n (pc' := 1061) dL_law_1060 rfl rfl rfl ?_
  refine am_callVp (pc' := 1064) (as := []) (ci := 6)  rfl dL_law_1061 rfl ok_X7_fault ml_L_128 im_X7_fault se_X7_fault rfl (Nat.le_of_ble_eq_true rfl) rfl (Nat.le_of_ble_eq_true rfl) (by first | assumption | exact ⟨by omega, by omega, rfl⟩) (t_fault hC) ?_
  refine am_aload_n (pc' := 1065) dL_law_1064 rfl rfl rfl ?_
  refine am_callVp (pc' := 1068) (as := []) (ci := 7)  rfl dL_law_1065 rfl ok_X8_fault ml_L_131 im_X8_fault se_X8_fault rfl (Nat.le_of_ble_eq_true rfl) rfl (Nat.le_of_ble_eq_true rfl) (by first | assumption | exact ⟨by omega, by omega, rfl⟩) (t8_fault hM) ?_
  have e := hJ.2.1.2.2.2.2.1.symm
  have J2 := hJ
  refine am_icmp_eq (pc' := 1071) (tgt := 1096) dL_law_1068 rfl rfl (fun _ => ?_) (fun c => absurd e c)
  exact kk _ _ _ _ _ _ J2
theorem lw_c27 {ρ h : am_H} {Lx : Nat} {xs : Int → Int} {A L S K i : Int} {Q : am_Q} (hi : 0 ≤ i ∧ i + 6 ≤ (Lx : Int)) (hLx : Lx ≤ 3072) (hJ : lw_J ρ h A L S K) (kk : ∀ ρ h A L S K, lw_J ρ h A L S K → am_WP (mL_law Lx xs) (lw_pc L K) (lw_ps L K) 1096 [some (am_R (-1)), some (am_R 1), some (am_R 38), some (am_I i)] [] ρ h Q) : am_WP (mL_law Lx xs) (lw_pc L K) (lw_ps L K) 1073 [some (am_R (-1)), some (am_R 1), some (am_R 38), some (am_I i)] [] ρ h Q := by
  have hC := hJ.1.2.1.1
  have hM := hJ.1.2.1.2.1
  have hn58 := hC.1
  have md := lw_md hJ.1.1 hJ.2
  refine am_aload_n (pc' := 1074) dL_law_1073 rfl rfl rfl ?_
  refine am_aload_n (pc' := 1075) dL_law_1074 rfl rfl rfl ?_
  refine am_iload_n (pc' := 1076) dL_law_1075 rfl rfl rfl ?_
  refine am_iconst (pc' := 1077) dL_law_1076 rfl rfl ?_
  refine am_iadd (pc' := 1078) dL_law_1077 rfl ⟨by omega, by omega⟩ ?_
  refine am_sld (pc' := 1079) rfl dL_law_1078 rfl (by omega) (by omega) ?_
  refine am_callVp (pc' := 1082) (as := [_]) (ci := 6)  rfl dL_law_1079 rfl ok_X7_many ml_L_132 im_X7_many se_X7_many rfl (Nat.le_of_ble_eq_true rfl) rfl (Nat.le_of_ble_eq_true rfl) (by first | assumption | exact ⟨by omega, by omega, rfl⟩) (t_many hC hJ.1.1.1) ?_
  refine am_aload_n (pc' := 1083) dL_law_1082 rfl rfl rfl ?_
  refine am_aload_n (pc' := 1084) dL_law_1083 rfl rfl rfl ?_
  refine am_iload_n (pc' := 1085) dL_law_1084 rfl rfl rfl ?_
  refine am_iconst (pc' := 1086) dL_law_1085 rfl rfl ?_
  refine am_iadd (pc' := 1087) dL_law_1086 rfl ⟨by omega, by omega⟩ ?_
  refine am_sld (pc' := 1088) rfl dL_law_1087 rfl (by omega) (by omega) ?_
  refine am_callVp (pc' := 1091) (as := [_]) (ci := 7)  rfl dL_law_1088 rfl ok_X8_many ml_L_135 im_X8_many se_X8_many rfl (Nat.le_of_ble_eq_true rfl) rfl (Nat.le_of_ble_eq_true rfl) (by first | assumption | exact ⟨by omega, by omega, rfl⟩) (t8_many hM md.1) ?_
  have e := jt_many (w := (xs (i + 1))) hJ
  have J2 := hJ
  refine am_icmp_eq (pc' := 1094) (tgt := 1096) dL_law_1091 rfl rfl (fun _ => ?_) (fun c => absurd e c)
  exact kk _ _ _ _ _ _ J2
