/-! the two great constructors -/
theorem tb_skip {a : Int × Int × Int} {t : List (Int × Int × Int)} {y j : Int} (h : ¬ (y = a.1 ∧ j = a.2.1)) : tb (a :: t) y j = tb t y j := by
  show (if y = a.1 ∧ j = a.2.1 then a.2.2 else tb t y j) = _
  rw [if_neg h]
theorem t7_step {ρ h : am_H} {i x : Int} {bc bs bc0 bs0 : Nat} {L K : List (Int × Int × Int)} {Q : am_Q} (hb : bc0 = 1 + bc + 1) (hs : bs0 = 60 + bs + 3) (hi : 0 ≤ i ∧ i < 4) (hx : x = 3 + 2 * i) (W : wd ρ h x L K) (t1 : tb L 1 0 = 2) (t2 : tb L 2 (-1) = 4)
    (kk : ∀ ρ h, wd ρ h (x + 1 + 1) ((2, i, x) :: (x, 2, x + 1) :: (x + 1, -1, 60) :: (x, -1, 0) :: L) ((x, 1, 0) :: (x, 0, -1) :: K) → am_WP mX7_init bc bs 14 [some (am_R 1), some (am_I (i + 1))] [] ρ h Q) : am_WP mX7_init bc0 bs0 14 [some (am_R 1), some (am_I i)] [] ρ h Q := by
  subst hb
  subst hs
  have w0 := W.1
  have e1 := (W.2.1 1 0 (by omega) (by omega)).trans t1
  have e2 := (W.2.1 2 (-1) (by omega) (by omega)).trans t2
  have ka : am_K x = 4 := by rcases (show i = 0 ∨ i = 1 ∨ i = 2 ∨ i = 3 by omega) with rfl | rfl | rfl | rfl <;> (subst hx; rfl)
  have kb : am_K (x + 1) = 8 := by rcases (show i = 0 ∨ i = 1 ∨ i = 2 ∨ i = 3 by omega) with rfl | rfl | rfl | rfl <;> (subst hx; rfl)
  have x0 : 0 < x := by omega
  refine am_iload_n (pc' := 15) dX7_init_14 rfl rfl rfl ?_
  refine am_aload_n (pc' := 16) dX7_init_15 rfl rfl rfl ?_
  refine am_getRk (ki := 0) (pc' := 19) (k := 0) (ci := 6) rfl dX7_init_16 rfl fl_X7_13 (by first | assumption | exact ⟨by omega, by omega, rfl⟩) rfl (by assumption) (by omega) ?_
  refine am_alenS (pc' := 20) dX7_init_19 rfl (by first | assumption | exact ⟨by omega, by omega, rfl⟩) (by assumption) ?_
  refine am_icmp_ge (pc' := 23) (tgt := 42) dX7_init_20 rfl rfl (fun c_20 => ?_) (fun c_20 => ?_)
  · exfalso; omega
  · refine am_aload_n (pc' := 24) dX7_init_23 rfl rfl rfl ?_
    refine am_getRk (ki := 0) (pc' := 27) (k := 0) (ci := 6) rfl dX7_init_24 rfl fl_X7_13 (by first | assumption | exact ⟨by omega, by omega, rfl⟩) rfl (by assumption) (by omega) ?_
    refine am_iload_n (pc' := 28) dX7_init_27 rfl rfl rfl ?_
    refine wd_newo (pc' := 31) (ci := 4) (N := 3) W rfl rfl dX7_init_28 rfl rfl cl_X7_11 ia_X4 in_X4 (by first | assumption | rfl) (fun ρ h W => ?_)
    first | refine am_dupR (pc' := 32) dX7_init_31 rfl ?_ | refine am_dupI (pc' := 32) dX7_init_31 rfl ?_
    refine am_callIN (pc' := 35) (mc := 1) (bc := bc) (ms := 60) (bs := bs) dX7_init_32 rfl ok_X4_init rfl ml_X7_17 im_X4_init rfl (Nat.le_of_ble_eq_true rfl) (Nat.le_of_ble_eq_true rfl) (t4_init (x := x) x0 ka kb W) (fun r_32 ρ_32 h_32 q_32 g_32 e_32 => ?_)
    obtain ⟨rfl, W⟩ := q_32
    have w1 := W.1
    have e3 : ρ_32 2 (-1) = 4 := by
      rw [W.2.1 2 (-1) (by omega) (by omega), tb_skip (by simp only []; omega), tb_skip (by simp only []; omega), tb_skip (by simp only []; omega)]; exact t2
    refine am_aastore (pc' := 36) dX7_init_35 rfl (by first | assumption | exact ⟨by omega, by omega, rfl⟩) ⟨by omega, by omega, ka⟩ (by omega) (by omega) ?_
    have W := wd_ur (k := i) (v := x) W (show 0 < 2 ∧ 2 < x + 1 + 1 by omega)
    refine am_iinc (pc' := 39) (ls' := [_, _]) dX7_init_36 rfl rfl ⟨by omega, by omega⟩ (Nat.le_of_ble_eq_true rfl) rfl rfl ?_
    refine am_goto (pc' := 14) dX7_init_39 rfl ?_
    exact kk _ _ W
theorem t7_init_42 {ρ h : am_H} {v1 : Option am_V} {L K : List (Int × Int × Int)} {Q : am_Q} (W : wd ρ h 11 L K) (kk : ∀ ρ h, wd ρ h 38 ((1, 6, 37) :: (37, -1, 0) :: (1, 5, 33) :: (33, 2, 36) :: (36, -1, 8) :: (33, 1, 35) :: (35, -1, 8) :: (33, 0, 34) :: (34, -1, 8) :: (33, -1, 0) :: (1, 4, 29) :: (29, 2, 32) :: (32, -1, 0) :: (29, 1, 31) :: (31, -1, 0) :: (29, 0, 30) :: (30, -1, 0) :: (29, -1, 0) :: (1, 3, 19) :: (19, 5, 28) :: (28, -1, 0) :: (19, 4, 27) :: (27, -1, 0) :: (19, 3, 26) :: (26, -1, 0) :: (19, 2, 25) :: (25, -1, 0) :: (19, 1, 24) :: (24, -1, 0) :: (19, 0, 20) :: (20, 4, 23) :: (23, -1, 5) :: (20, 3, 22) :: (22, -1, 5) :: (20, 2, 21) :: (21, -1, 5) :: (20, -1, 0) :: (19, -1, 0) :: (1, 2, 15) :: (15, 4, 18) :: (18, -1, 5) :: (15, 3, 17) :: (17, -1, 5) :: (15, 2, 16) :: (16, -1, 5) :: (15, -1, 0) :: (1, 1, 11) :: (11, 4, 14) :: (14, -1, 5) :: (11, 3, 13) :: (13, -1, 5) :: (11, 2, 12) :: (12, -1, 5) :: (11, -1, 0) :: L) ((37, 2, 0) :: (37, 1, 0) :: (37, 0, -9) :: (33, 3, 0) :: (29, 4, -9) :: (29, 3, 0) :: (19, 13, 0) :: (19, 12, 0) :: (19, 11, 0) :: (19, 10, 0) :: (19, 9, 0) :: (19, 8, 0) :: (19, 7, 0) :: (19, 6, 0) :: (20, 1, 0) :: (20, 0, 0) :: (15, 1, 0) :: (15, 0, 0) :: (11, 1, 0) :: (11, 0, 0) :: K) → Q none ρ h) : am_WP mX7_init 27 110 42 [some (am_R 1), v1] [] ρ h Q := by
  refine am_aload_n (pc' := 43) dX7_init_42 rfl rfl rfl ?_
  refine wd_newo (pc' := 46) (ci := 3) (N := 5) W rfl rfl dX7_init_43 rfl rfl cl_X7_18 ia_X3 in_X3 (by first | assumption | rfl) (fun ρ h W => ?_)
  first | refine am_dupR (pc' := 47) dX7_init_46 rfl ?_ | refine am_dupI (pc' := 47) dX7_init_46 rfl ?_
  refine am_callIN (pc' := 50) (mc := 3) (bc := 23) (ms := 15) (bs := 90) dX7_init_47 rfl ok_X3_init rfl ml_X7_20 im_X3_init rfl (Nat.le_of_ble_eq_true rfl) (Nat.le_of_ble_eq_true rfl) (t3_init (x := 11) (by decide) rfl rfl rfl rfl W) (fun r_47 ρ_47 h_47 q_47 g_47 e_47 => ?_)
  obtain ⟨rfl, W⟩ := q_47
  refine wd_putF (ki := 1) (pc' := 53) (k := 1) (ci := 6) W rfl dX7_init_50 rfl fl_X7_21 ⟨by omega, by omega, by first | assumption | rfl⟩ rfl (by omega) (fun _ _ _ e => by cases e; exact ⟨rfl, rfl⟩) rfl (fun ρ W => ?_)
  refine am_aload_n (pc' := 54) dX7_init_53 rfl rfl rfl ?_
  refine wd_newo (pc' := 57) (ci := 3) (N := 5) W rfl rfl dX7_init_54 rfl rfl cl_X7_18 ia_X3 in_X3 (by first | assumption | rfl) (fun ρ h W => ?_)
  first | refine am_dupR (pc' := 58) dX7_init_57 rfl ?_ | refine am_dupI (pc' := 58) dX7_init_57 rfl ?_
  refine am_callIN (pc' := 61) (mc := 3) (bc := 19) (ms := 15) (bs := 70) dX7_init_58 rfl ok_X3_init rfl ml_X7_20 im_X3_init rfl (Nat.le_of_ble_eq_true rfl) (Nat.le_of_ble_eq_true rfl) (t3_init (x := 15) (by decide) rfl rfl rfl rfl W) (fun r_58 ρ_58 h_58 q_58 g_58 e_58 => ?_)
  obtain ⟨rfl, W⟩ := q_58
  refine wd_putF (ki := 2) (pc' := 64) (k := 2) (ci := 6) W rfl dX7_init_61 rfl fl_X7_25 ⟨by omega, by omega, by first | assumption | rfl⟩ rfl (by omega) (fun _ _ _ e => by cases e; exact ⟨rfl, rfl⟩) rfl (fun ρ W => ?_)
  refine am_aload_n (pc' := 65) dX7_init_64 rfl rfl rfl ?_
  refine wd_newo (pc' := 68) (ci := 0) (N := 14) W rfl rfl dX7_init_65 rfl rfl cl_X7_28 ia_X0 in_X0 (by first | assumption | rfl) (fun ρ h W => ?_)
  first | refine am_dupR (pc' := 69) dX7_init_68 rfl ?_ | refine am_dupI (pc' := 69) dX7_init_68 rfl ?_
  refine am_callIN (pc' := 72) (mc := 9) (bc := 9) (ms := 20) (bs := 36) dX7_init_69 rfl ok_X0_init rfl ml_X7_30 im_X0_init rfl (Nat.le_of_ble_eq_true rfl) (Nat.le_of_ble_eq_true rfl) (t0_init W) (fun r_69 ρ_69 h_69 q_69 g_69 e_69 => ?_)
  obtain ⟨rfl, W⟩ := q_69
  refine wd_putF (ki := 3) (pc' := 75) (k := 3) (ci := 6) W rfl dX7_init_72 rfl fl_X7_31 ⟨by omega, by omega, by first | assumption | rfl⟩ rfl (by omega) (fun _ _ _ e => by cases e; exact ⟨rfl, rfl⟩) rfl (fun ρ W => ?_)
  refine am_aload_n (pc' := 76) dX7_init_75 rfl rfl rfl ?_
  refine wd_newo (pc' := 79) (ci := 5) (N := 5) W rfl rfl dX7_init_76 rfl rfl cl_X7_35 ia_X5 in_X5 (by first | assumption | rfl) (fun ρ h W => ?_)
  first | refine am_dupR (pc' := 80) dX7_init_79 rfl ?_ | refine am_dupI (pc' := 80) dX7_init_79 rfl ?_
  refine am_callIN (pc' := 83) (mc := 3) (bc := 5) (ms := 0) (bs := 31) dX7_init_80 rfl ok_X5_init rfl ml_X7_37 im_X5_init rfl (Nat.le_of_ble_eq_true rfl) (Nat.le_of_ble_eq_true rfl) (t5_init W) (fun r_80 ρ_80 h_80 q_80 g_80 e_80 => ?_)
  obtain ⟨rfl, W⟩ := q_80
  refine wd_putF (ki := 4) (pc' := 86) (k := 4) (ci := 6) W rfl dX7_init_83 rfl fl_X7_38 ⟨by omega, by omega, by first | assumption | rfl⟩ rfl (by omega) (fun _ _ _ e => by cases e; exact ⟨rfl, rfl⟩) rfl (fun ρ W => ?_)
  refine am_aload_n (pc' := 87) dX7_init_86 rfl rfl rfl ?_
  refine wd_newo (pc' := 90) (ci := 2) (N := 4) W rfl rfl dX7_init_87 rfl rfl cl_X7_42 ia_X2 in_X2 (by first | assumption | rfl) (fun ρ h W => ?_)
  first | refine am_dupR (pc' := 91) dX7_init_90 rfl ?_ | refine am_dupI (pc' := 91) dX7_init_90 rfl ?_
  refine am_callIN (pc' := 94) (mc := 3) (bc := 1) (ms := 24) (bs := 3) dX7_init_91 rfl ok_X2_init rfl ml_X7_44 im_X2_init rfl (Nat.le_of_ble_eq_true rfl) (Nat.le_of_ble_eq_true rfl) (t2_init W) (fun r_91 ρ_91 h_91 q_91 g_91 e_91 => ?_)
  obtain ⟨rfl, W⟩ := q_91
  refine wd_putF (ki := 5) (pc' := 97) (k := 5) (ci := 6) W rfl dX7_init_94 rfl fl_X7_45 ⟨by omega, by omega, by first | assumption | rfl⟩ rfl (by omega) (fun _ _ _ e => by cases e; exact ⟨rfl, rfl⟩) rfl (fun ρ W => ?_)
  refine am_aload_n (pc' := 98) dX7_init_97 rfl rfl rfl ?_
  refine wd_newo (pc' := 101) (ci := 1) (N := 3) W rfl rfl dX7_init_98 rfl rfl cl_X7_49 ia_X1 in_X1 (by first | assumption | rfl) (fun ρ h W => ?_)
  first | refine am_dupR (pc' := 102) dX7_init_101 rfl ?_ | refine am_dupI (pc' := 102) dX7_init_101 rfl ?_
  refine am_callIN (pc' := 105) (mc := 0) (bc := 0) (ms := 0) (bs := 0) dX7_init_102 rfl ok_X1_init rfl ml_X7_51 im_X1_init rfl (Nat.le_of_ble_eq_true rfl) (Nat.le_of_ble_eq_true rfl) (t1_init W) (fun r_102 ρ_102 h_102 q_102 g_102 e_102 => ?_)
  obtain ⟨rfl, W⟩ := q_102
  refine wd_putF (ki := 6) (pc' := 108) (k := 6) (ci := 6) W rfl dX7_init_105 rfl fl_X7_52 ⟨by omega, by omega, by first | assumption | rfl⟩ rfl (by omega) (fun _ _ _ e => by cases e; exact ⟨rfl, rfl⟩) rfl (fun ρ W => ?_)
  refine am_retv dX7_init_108 rfl ?_
  exact kk _ _ W
def in_L7 (L : List (Int × Int × Int)) : List (Int × Int × Int) := (1, 6, 37) :: (37, -1, 0) :: (1, 5, 33) :: (33, 2, 36) :: (36, -1, 8) :: (33, 1, 35) :: (35, -1, 8) :: (33, 0, 34) :: (34, -1, 8) :: (33, -1, 0) :: (1, 4, 29) :: (29, 2, 32) :: (32, -1, 0) :: (29, 1, 31) :: (31, -1, 0) :: (29, 0, 30) :: (30, -1, 0) :: (29, -1, 0) :: (1, 3, 19) :: (19, 5, 28) :: (28, -1, 0) :: (19, 4, 27) :: (27, -1, 0) :: (19, 3, 26) :: (26, -1, 0) :: (19, 2, 25) :: (25, -1, 0) :: (19, 1, 24) :: (24, -1, 0) :: (19, 0, 20) :: (20, 4, 23) :: (23, -1, 5) :: (20, 3, 22) :: (22, -1, 5) :: (20, 2, 21) :: (21, -1, 5) :: (20, -1, 0) :: (19, -1, 0) :: (1, 2, 15) :: (15, 4, 18) :: (18, -1, 5) :: (15, 3, 17) :: (17, -1, 5) :: (15, 2, 16) :: (16, -1, 5) :: (15, -1, 0) :: (1, 1, 11) :: (11, 4, 14) :: (14, -1, 5) :: (11, 3, 13) :: (13, -1, 5) :: (11, 2, 12) :: (12, -1, 5) :: (11, -1, 0) :: (2, 3, 9) :: (9, 2, 10) :: (10, -1, 60) :: (9, -1, 0) :: (2, 2, 7) :: (7, 2, 8) :: (8, -1, 60) :: (7, -1, 0) :: (2, 1, 5) :: (5, 2, 6) :: (6, -1, 60) :: (5, -1, 0) :: (2, 0, 3) :: (3, 2, 4) :: (4, -1, 60) :: (3, -1, 0) :: (1, 0, 2) :: (2, -1, 4) :: L
def in_K7 (K : List (Int × Int × Int)) : List (Int × Int × Int) := (37, 2, 0) :: (37, 1, 0) :: (37, 0, -9) :: (33, 3, 0) :: (29, 4, -9) :: (29, 3, 0) :: (19, 13, 0) :: (19, 12, 0) :: (19, 11, 0) :: (19, 10, 0) :: (19, 9, 0) :: (19, 8, 0) :: (19, 7, 0) :: (19, 6, 0) :: (20, 1, 0) :: (20, 0, 0) :: (15, 1, 0) :: (15, 0, 0) :: (11, 1, 0) :: (11, 0, 0) :: (9, 1, 0) :: (9, 0, -1) :: (7, 1, 0) :: (7, 0, -1) :: (5, 1, 0) :: (5, 0, -1) :: (3, 1, 0) :: (3, 0, -1) :: K
def in_L8 (L : List (Int × Int × Int)) : List (Int × Int × Int) := (38, 30, 57) :: (57, -1, 60) :: (38, 29, 56) :: (56, -1, 240) :: (38, 28, 55) :: (55, -1, 4) :: (38, 27, 54) :: (54, -1, 4) :: (38, 26, 53) :: (53, -1, 8) :: (38, 25, 52) :: (52, -1, 8) :: (38, 24, 51) :: (51, -1, 8) :: (38, 22, 50) :: (50, -1, 5) :: (38, 17, 49) :: (49, -1, 7776) :: (38, 16, 48) :: (48, -1, 7776) :: (38, 15, 47) :: (47, -1, 7776) :: (38, 14, 46) :: (46, -1, 7776) :: (38, 13, 45) :: (45, -1, 7776) :: (38, 12, 44) :: (44, -1, 5) :: (38, 11, 43) :: (43, -1, 5) :: (38, 10, 42) :: (42, -1, 5) :: (38, 9, 41) :: (41, -1, 5) :: (38, 5, 40) :: (40, -1, 5) :: (38, 4, 39) :: (39, -1, 5) :: L
def in_K8 (K : List (Int × Int × Int)) : List (Int × Int × Int) := (54, 3, -1) :: (54, 2, -1) :: (54, 1, -1) :: (54, 0, -1) :: K
theorem t7_init {ρ h : am_H} {L K : List (Int × Int × Int)} (W : wd ρ h 2 L K) : am_CT mX7_init 36 366 [am_R 1] ρ h (fun r ρ' h' => r = none ∧ wd ρ' h' 38 (in_L7 L) (in_K7 K)) := by
  refine am_ct (ls := [some (am_R 1), none]) ok_X7_init rfl (fun _ => Nat.le_of_ble_eq_true rfl) (fun _ => rfl) (by intro v hv; simpa using hv) ?_
  refine am_aload_n (pc' := 1) dX7_init_0 rfl rfl rfl ?_
  refine am_obji (pc' := 4) dX7_init_1 rfl ml_X7_3 im_Object co_Object (Nat.le_of_ble_eq_true rfl) rfl ?_
  refine am_aload_n (pc' := 5) dX7_init_4 rfl rfl rfl ?_
  refine am_iconst (pc' := 6) dX7_init_5 rfl rfl ?_
  refine wd_newsh (pc' := 9) (len := 4) (k := 4) W rfl rfl rfl dX7_init_6 rfl cl_X7_11 (by decide) (by decide) (by first | assumption | rfl) (fun ρ h W => ?_)
  refine wd_putF (ki := 0) (pc' := 12) (k := 0) (ci := 6) W rfl dX7_init_9 rfl fl_X7_13 ⟨by omega, by omega, by first | assumption | rfl⟩ rfl (by omega) (fun _ _ _ e => by cases e; exact ⟨rfl, rfl⟩) rfl (fun ρ W => ?_)
  refine am_iconst (pc' := 13) dX7_init_12 rfl rfl ?_
  refine am_istore_n (pc' := 14) (ls' := [_, _]) dX7_init_13 rfl rfl (Nat.le_of_ble_eq_true rfl) rfl rfl ?_
  refine t7_step (x := 3) (bc := 33) (bs := 299) rfl rfl (by decide) (by decide) W rfl rfl (fun ρ h W => ?_)
  refine t7_step (x := 5) (bc := 31) (bs := 236) rfl rfl (by decide) (by decide) W rfl rfl (fun ρ h W => ?_)
  refine t7_step (x := 7) (bc := 29) (bs := 173) rfl rfl (by decide) (by decide) W rfl rfl (fun ρ h W => ?_)
  refine t7_step (x := 9) (bc := 27) (bs := 110) rfl rfl (by decide) (by decide) W rfl rfl (fun ρ h W => ?_)
  have w0 := W.1
  have e1 : ρ 1 0 = 2 := W.2.1 1 0 (by decide) (by decide)
  have e2 : ρ 2 (-1) = 4 := W.2.1 2 (-1) (by decide) (by decide)
  refine am_iload_n (pc' := 15) dX7_init_14 rfl rfl rfl ?_
  refine am_aload_n (pc' := 16) dX7_init_15 rfl rfl rfl ?_
  refine am_getRk (ki := 0) (pc' := 19) (k := 0) (ci := 6) rfl dX7_init_16 rfl fl_X7_13 (by first | assumption | exact ⟨by omega, by omega, rfl⟩) rfl (by assumption) (by omega) ?_
  refine am_alenS (pc' := 20) dX7_init_19 rfl (by first | assumption | exact ⟨by omega, by omega, rfl⟩) (by assumption) ?_
  refine am_icmp_ge (pc' := 23) (tgt := 42) dX7_init_20 rfl rfl (fun c_20 => ?_) (fun c_20 => ?_)
  · exact t7_init_42 W (fun ρ h W => ⟨rfl, W⟩)
  · exact absurd (show (4 : Int) ≤ 0 + 1 + 1 + 1 + 1 by decide) c_20
theorem t8_istep {ρ h : am_H} {i : Int} {bc bs : Nat} {L K : List (Int × Int × Int)} {Q : am_Q} (hi : 0 ≤ i ∧ i < 4) (W : wd ρ h 58 L K) (t1 : tb L 38 27 = 54) (t2 : tb L 54 (-1) = 4)
    (kk : ∀ h, wd ρ h 58 L ((54, i, -1) :: K) → am_WP mX8_init bc bs 155 [some (am_R 38), some (am_I (i + 1))] [] ρ h Q) : am_WP mX8_init bc bs 155 [some (am_R 38), some (am_I i)] [] ρ h Q := by
  have w0 := W.1
  have e1 := (W.2.1 38 27 (by omega) (by omega)).trans t1
  have e2 := (W.2.1 54 (-1) (by omega) (by omega)).trans t2
  refine am_iload_n (pc' := 156) dX8_init_155 rfl rfl rfl ?_
  refine am_iconst (pc' := 157) dX8_init_156 rfl rfl ?_
  refine am_icmp_ge (pc' := 160) (tgt := 173) dX8_init_157 rfl rfl (fun c_157 => ?_) (fun c_157 => ?_)
  · exfalso; omega
  · refine am_aload_n (pc' := 161) dX8_init_160 rfl rfl rfl ?_
    refine am_getRk (ki := 27) (pc' := 164) (k := 27) (ci := 7) rfl dX8_init_161 rfl fl_X8_55 (by first | assumption | exact ⟨by omega, by omega, rfl⟩) rfl (by assumption) (by omega) ?_
    refine am_iload_n (pc' := 165) dX8_init_164 rfl rfl rfl ?_
    refine am_iconst (pc' := 166) dX8_init_165 rfl rfl ?_
    refine am_iastore (pc' := 167) dX8_init_166 rfl (by first | assumption | exact ⟨by omega, by omega, rfl⟩) (by omega) (by omega) ?_
    refine am_iinc (pc' := 170) (ls' := [_, _]) dX8_init_167 rfl rfl ⟨by omega, by omega⟩ (Nat.le_of_ble_eq_true rfl) rfl rfl ?_
    refine am_goto (pc' := 155) dX8_init_170 rfl ?_
    exact kk _ (wd_uh W (by decide))
theorem t8_init {ρ h : am_H} {L K : List (Int × Int × Int)} (W : wd ρ h 39 L K) : am_CT mX8_init 19 39247 [am_R 38] ρ h (fun r ρ' h' => r = none ∧ wd ρ' h' 58 (in_L8 L) (in_K8 K)) := by
  refine am_ct (ls := [some (am_R 38), none]) ok_X8_init rfl (fun _ => Nat.le_of_ble_eq_true rfl) (fun _ => rfl) (by intro v hv; simpa using hv) ?_
  refine am_aload_n (pc' := 1) dX8_init_0 rfl rfl rfl ?_
  refine am_obji (pc' := 4) dX8_init_1 rfl ml_X8_1 im_Object co_Object (Nat.le_of_ble_eq_true rfl) rfl ?_
  refine am_aload_n (pc' := 5) dX8_init_4 rfl rfl rfl ?_
  refine am_iconst (pc' := 6) dX8_init_5 rfl rfl ?_
  refine wd_newarr (pc' := 8) (len := 5) (k := 5) W rfl rfl rfl dX8_init_6 rfl ac_int (by decide) (by decide) (by first | assumption | rfl) (fun ρ h W => ?_)
  refine wd_putF (ki := 4) (pc' := 11) (k := 4) (ci := 7) W rfl dX8_init_8 rfl fl_X8_7 ⟨by omega, by omega, by first | assumption | rfl⟩ rfl (by omega) (fun _ _ _ e => by cases e; exact ⟨rfl, rfl⟩) rfl (fun ρ W => ?_)
  refine am_aload_n (pc' := 12) dX8_init_11 rfl rfl rfl ?_
  refine am_iconst (pc' := 13) dX8_init_12 rfl rfl ?_
  refine wd_newarr (pc' := 15) (len := 5) (k := 5) W rfl rfl rfl dX8_init_13 rfl ac_int (by decide) (by decide) (by first | assumption | rfl) (fun ρ h W => ?_)
  refine wd_putF (ki := 5) (pc' := 18) (k := 5) (ci := 7) W rfl dX8_init_15 rfl fl_X8_13 ⟨by omega, by omega, by first | assumption | rfl⟩ rfl (by omega) (fun _ _ _ e => by cases e; exact ⟨rfl, rfl⟩) rfl (fun ρ W => ?_)
  refine am_aload_n (pc' := 19) dX8_init_18 rfl rfl rfl ?_
  refine am_iconst (pc' := 20) dX8_init_19 rfl rfl ?_
  refine wd_newarr (pc' := 22) (len := 5) (k := 5) W rfl rfl rfl dX8_init_20 rfl ac_int (by decide) (by decide) (by first | assumption | rfl) (fun ρ h W => ?_)
  refine wd_putF (ki := 9) (pc' := 25) (k := 9) (ci := 7) W rfl dX8_init_22 rfl fl_X8_16 ⟨by omega, by omega, by first | assumption | rfl⟩ rfl (by omega) (fun _ _ _ e => by cases e; exact ⟨rfl, rfl⟩) rfl (fun ρ W => ?_)
  refine am_aload_n (pc' := 26) dX8_init_25 rfl rfl rfl ?_
  refine am_iconst (pc' := 27) dX8_init_26 rfl rfl ?_
  refine wd_newarr (pc' := 29) (len := 5) (k := 5) W rfl rfl rfl dX8_init_27 rfl ac_int (by decide) (by decide) (by first | assumption | rfl) (fun ρ h W => ?_)
  refine wd_putF (ki := 10) (pc' := 32) (k := 10) (ci := 7) W rfl dX8_init_29 rfl fl_X8_19 ⟨by omega, by omega, by first | assumption | rfl⟩ rfl (by omega) (fun _ _ _ e => by cases e; exact ⟨rfl, rfl⟩) rfl (fun ρ W => ?_)
  refine am_aload_n (pc' := 33) dX8_init_32 rfl rfl rfl ?_
  refine am_iconst (pc' := 34) dX8_init_33 rfl rfl ?_
  refine wd_newarr (pc' := 36) (len := 5) (k := 5) W rfl rfl rfl dX8_init_34 rfl ac_int (by decide) (by decide) (by first | assumption | rfl) (fun ρ h W => ?_)
  refine wd_putF (ki := 11) (pc' := 39) (k := 11) (ci := 7) W rfl dX8_init_36 rfl fl_X8_22 ⟨by omega, by omega, by first | assumption | rfl⟩ rfl (by omega) (fun _ _ _ e => by cases e; exact ⟨rfl, rfl⟩) rfl (fun ρ W => ?_)
  refine am_aload_n (pc' := 40) dX8_init_39 rfl rfl rfl ?_
  refine am_iconst (pc' := 41) dX8_init_40 rfl rfl ?_
  refine wd_newarr (pc' := 43) (len := 5) (k := 5) W rfl rfl rfl dX8_init_41 rfl ac_int (by decide) (by decide) (by first | assumption | rfl) (fun ρ h W => ?_)
  refine wd_putF (ki := 12) (pc' := 46) (k := 12) (ci := 7) W rfl dX8_init_43 rfl fl_X8_25 ⟨by omega, by omega, by first | assumption | rfl⟩ rfl (by omega) (fun _ _ _ e => by cases e; exact ⟨rfl, rfl⟩) rfl (fun ρ W => ?_)
  refine am_aload_n (pc' := 47) dX8_init_46 rfl rfl rfl ?_
  refine am_sipush (pc' := 50) dX8_init_47 rfl rfl (by decide) ?_
  refine wd_newarr (pc' := 52) (len := 7776) (k := 7776) W rfl rfl rfl dX8_init_50 rfl ac_int (by decide) (by decide) (by first | assumption | rfl) (fun ρ h W => ?_)
  refine wd_putF (ki := 13) (pc' := 55) (k := 13) (ci := 7) W rfl dX8_init_52 rfl fl_X8_28 ⟨by omega, by omega, by first | assumption | rfl⟩ rfl (by omega) (fun _ _ _ e => by cases e; exact ⟨rfl, rfl⟩) rfl (fun ρ W => ?_)
  refine am_aload_n (pc' := 56) dX8_init_55 rfl rfl rfl ?_
  refine am_sipush (pc' := 59) dX8_init_56 rfl rfl (by decide) ?_
  refine wd_newarr (pc' := 61) (len := 7776) (k := 7776) W rfl rfl rfl dX8_init_59 rfl ac_int (by decide) (by decide) (by first | assumption | rfl) (fun ρ h W => ?_)
  refine wd_putF (ki := 14) (pc' := 64) (k := 14) (ci := 7) W rfl dX8_init_61 rfl fl_X8_31 ⟨by omega, by omega, by first | assumption | rfl⟩ rfl (by omega) (fun _ _ _ e => by cases e; exact ⟨rfl, rfl⟩) rfl (fun ρ W => ?_)
  refine am_aload_n (pc' := 65) dX8_init_64 rfl rfl rfl ?_
  refine am_sipush (pc' := 68) dX8_init_65 rfl rfl (by decide) ?_
  refine wd_newarr (pc' := 70) (len := 7776) (k := 7776) W rfl rfl rfl dX8_init_68 rfl ac_int (by decide) (by decide) (by first | assumption | rfl) (fun ρ h W => ?_)
  refine wd_putF (ki := 15) (pc' := 73) (k := 15) (ci := 7) W rfl dX8_init_70 rfl fl_X8_34 ⟨by omega, by omega, by first | assumption | rfl⟩ rfl (by omega) (fun _ _ _ e => by cases e; exact ⟨rfl, rfl⟩) rfl (fun ρ W => ?_)
  refine am_aload_n (pc' := 74) dX8_init_73 rfl rfl rfl ?_
  refine am_sipush (pc' := 77) dX8_init_74 rfl rfl (by decide) ?_
  refine wd_newarr (pc' := 79) (len := 7776) (k := 7776) W rfl rfl rfl dX8_init_77 rfl ac_int (by decide) (by decide) (by first | assumption | rfl) (fun ρ h W => ?_)
  refine wd_putF (ki := 16) (pc' := 82) (k := 16) (ci := 7) W rfl dX8_init_79 rfl fl_X8_37 ⟨by omega, by omega, by first | assumption | rfl⟩ rfl (by omega) (fun _ _ _ e => by cases e; exact ⟨rfl, rfl⟩) rfl (fun ρ W => ?_)
  refine am_aload_n (pc' := 83) dX8_init_82 rfl rfl rfl ?_
  refine am_sipush (pc' := 86) dX8_init_83 rfl rfl (by decide) ?_
  refine wd_newarr (pc' := 88) (len := 7776) (k := 7776) W rfl rfl rfl dX8_init_86 rfl ac_int (by decide) (by decide) (by first | assumption | rfl) (fun ρ h W => ?_)
  refine wd_putF (ki := 17) (pc' := 91) (k := 17) (ci := 7) W rfl dX8_init_88 rfl fl_X8_40 ⟨by omega, by omega, by first | assumption | rfl⟩ rfl (by omega) (fun _ _ _ e => by cases e; exact ⟨rfl, rfl⟩) rfl (fun ρ W => ?_)
  refine am_aload_n (pc' := 92) dX8_init_91 rfl rfl rfl ?_
  refine am_iconst (pc' := 93) dX8_init_92 rfl rfl ?_
  refine wd_newarr (pc' := 95) (len := 5) (k := 5) W rfl rfl rfl dX8_init_93 rfl ac_int (by decide) (by decide) (by first | assumption | rfl) (fun ρ h W => ?_)
  refine wd_putF (ki := 22) (pc' := 98) (k := 22) (ci := 7) W rfl dX8_init_95 rfl fl_X8_43 ⟨by omega, by omega, by first | assumption | rfl⟩ rfl (by omega) (fun _ _ _ e => by cases e; exact ⟨rfl, rfl⟩) rfl (fun ρ W => ?_)
  refine am_aload_n (pc' := 99) dX8_init_98 rfl rfl rfl ?_
  refine am_bipush (pc' := 101) dX8_init_99 rfl rfl (by decide) ?_
  refine wd_newarr (pc' := 103) (len := 8) (k := 8) W rfl rfl rfl dX8_init_101 rfl ac_int (by decide) (by decide) (by first | assumption | rfl) (fun ρ h W => ?_)
  refine wd_putF (ki := 24) (pc' := 106) (k := 24) (ci := 7) W rfl dX8_init_103 rfl fl_X8_46 ⟨by omega, by omega, by first | assumption | rfl⟩ rfl (by omega) (fun _ _ _ e => by cases e; exact ⟨rfl, rfl⟩) rfl (fun ρ W => ?_)
  refine am_aload_n (pc' := 107) dX8_init_106 rfl rfl rfl ?_
  refine am_bipush (pc' := 109) dX8_init_107 rfl rfl (by decide) ?_
  refine wd_newarr (pc' := 111) (len := 8) (k := 8) W rfl rfl rfl dX8_init_109 rfl ac_int (by decide) (by decide) (by first | assumption | rfl) (fun ρ h W => ?_)
  refine wd_putF (ki := 25) (pc' := 114) (k := 25) (ci := 7) W rfl dX8_init_111 rfl fl_X8_49 ⟨by omega, by omega, by first | assumption | rfl⟩ rfl (by omega) (fun _ _ _ e => by cases e; exact ⟨rfl, rfl⟩) rfl (fun ρ W => ?_)
  refine am_aload_n (pc' := 115) dX8_init_114 rfl rfl rfl ?_
  refine am_bipush (pc' := 117) dX8_init_115 rfl rfl (by decide) ?_
  refine wd_newarr (pc' := 119) (len := 8) (k := 8) W rfl rfl rfl dX8_init_117 rfl ac_int (by decide) (by decide) (by first | assumption | rfl) (fun ρ h W => ?_)
  refine wd_putF (ki := 26) (pc' := 122) (k := 26) (ci := 7) W rfl dX8_init_119 rfl fl_X8_52 ⟨by omega, by omega, by first | assumption | rfl⟩ rfl (by omega) (fun _ _ _ e => by cases e; exact ⟨rfl, rfl⟩) rfl (fun ρ W => ?_)
  refine am_aload_n (pc' := 123) dX8_init_122 rfl rfl rfl ?_
  refine am_iconst (pc' := 124) dX8_init_123 rfl rfl ?_
  refine wd_newarr (pc' := 126) (len := 4) (k := 4) W rfl rfl rfl dX8_init_124 rfl ac_int (by decide) (by decide) (by first | assumption | rfl) (fun ρ h W => ?_)
  refine wd_putF (ki := 27) (pc' := 129) (k := 27) (ci := 7) W rfl dX8_init_126 rfl fl_X8_55 ⟨by omega, by omega, by first | assumption | rfl⟩ rfl (by omega) (fun _ _ _ e => by cases e; exact ⟨rfl, rfl⟩) rfl (fun ρ W => ?_)
  refine am_aload_n (pc' := 130) dX8_init_129 rfl rfl rfl ?_
  refine am_iconst (pc' := 131) dX8_init_130 rfl rfl ?_
  refine wd_newarr (pc' := 133) (len := 4) (k := 4) W rfl rfl rfl dX8_init_131 rfl ac_int (by decide) (by decide) (by first | assumption | rfl) (fun ρ h W => ?_)
  refine wd_putF (ki := 28) (pc' := 136) (k := 28) (ci := 7) W rfl dX8_init_133 rfl fl_X8_58 ⟨by omega, by omega, by first | assumption | rfl⟩ rfl (by omega) (fun _ _ _ e => by cases e; exact ⟨rfl, rfl⟩) rfl (fun ρ W => ?_)
  refine am_aload_n (pc' := 137) dX8_init_136 rfl rfl rfl ?_
  refine am_sipush (pc' := 140) dX8_init_137 rfl rfl (by decide) ?_
  refine wd_newarr (pc' := 142) (len := 240) (k := 240) W rfl rfl rfl dX8_init_140 rfl ac_int (by decide) (by decide) (by first | assumption | rfl) (fun ρ h W => ?_)
  refine wd_putF (ki := 29) (pc' := 145) (k := 29) (ci := 7) W rfl dX8_init_142 rfl fl_X8_61 ⟨by omega, by omega, by first | assumption | rfl⟩ rfl (by omega) (fun _ _ _ e => by cases e; exact ⟨rfl, rfl⟩) rfl (fun ρ W => ?_)
  refine am_aload_n (pc' := 146) dX8_init_145 rfl rfl rfl ?_
  refine am_bipush (pc' := 148) dX8_init_146 rfl rfl (by decide) ?_
  refine wd_newarr (pc' := 150) (len := 60) (k := 60) W rfl rfl rfl dX8_init_148 rfl ac_int (by decide) (by decide) (by first | assumption | rfl) (fun ρ h W => ?_)
  refine wd_putF (ki := 30) (pc' := 153) (k := 30) (ci := 7) W rfl dX8_init_150 rfl fl_X8_64 ⟨by omega, by omega, by first | assumption | rfl⟩ rfl (by omega) (fun _ _ _ e => by cases e; exact ⟨rfl, rfl⟩) rfl (fun ρ W => ?_)
  refine am_iconst (pc' := 154) dX8_init_153 rfl rfl ?_
  refine am_istore_n (pc' := 155) (ls' := [_, _]) dX8_init_154 rfl rfl (Nat.le_of_ble_eq_true rfl) rfl rfl ?_
  refine t8_istep (by decide) W rfl rfl (fun h W => ?_)
  refine t8_istep (by decide) W rfl rfl (fun h W => ?_)
  refine t8_istep (by decide) W rfl rfl (fun h W => ?_)
  refine t8_istep (by decide) W rfl rfl (fun h W => ?_)
  refine am_iload_n (pc' := 156) dX8_init_155 rfl rfl rfl ?_
  refine am_iconst (pc' := 157) dX8_init_156 rfl rfl ?_
  refine am_icmp_ge (pc' := 160) (tgt := 173) dX8_init_157 rfl rfl (fun c_157 => ?_) (fun c_157 => ?_)
  · refine am_retv dX8_init_173 rfl ?_
    exact ⟨rfl, W⟩
  · exact absurd (show (4 : Int) ≤ 0 + 1 + 1 + 1 + 1 by decide) c_157
