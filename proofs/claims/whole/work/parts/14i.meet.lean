/-! DifferRings: meet -/
def cl_Tf (f : Int) (h : am_H) (L S K : Int) (mc ms : Nat) (ρ' h' : am_H) : Prop := ∃ A' L', cl_I ρ' h' A' L' S K ∧ (∀ x j, (1 ≤ x ∧ x ≤ 13) ∨ (33 ≤ x ∧ x ≤ 36) ∨ (38 ≤ x ∧ x ≤ 57) → ¬ (x = 1 ∧ j = 9) → h' x j = h x j) ∧ h' 1 9 = f ∧ gr_A L L' (mt_pw (h 11 0) (h 11 1).toNat) mc ms
def o_meet (P B : Int) (nx : Int → Int) (row k l fl : Int) (c : Int → Int) (v f : Int) : Prop :=
  (P = 0 ∧ v = -3 ∧ f = 0) ∨ (P ≠ 0 ∧ ¬ (0 ≤ k ∧ k < 4) ∧ v = -1 ∧ f = 0) ∨ (P ≠ 0 ∧ (0 ≤ k ∧ k < 4) ∧ ¬ (0 ≤ l ∧ l < 3) ∧ v = -2 ∧ f = 0) ∨ (P ≠ 0 ∧ (0 ≤ k ∧ k < 4) ∧ (0 ≤ l ∧ l < 3) ∧ fl ≠ 0 ∧ v = -10 - fl ∧ f = fl) ∨
  (P ≠ 0 ∧ (0 ≤ k ∧ k < 4) ∧ (0 ≤ l ∧ l < 3) ∧ fl = 0 ∧ ¬ mt_ok P B c ∧ v = -2 ∧ f = 0) ∨ (P ≠ 0 ∧ (0 ≤ k ∧ k < 4) ∧ (0 ≤ l ∧ l < 3) ∧ fl = 0 ∧ mt_ok P B c ∧ f = 0 ∧ gr_mt nx row (mt_cd B c P.toNat) v)
def o_meetG (P B k l fl : Int) (c : Int → Int) : Prop := P ≠ 0 ∧ (0 ≤ k ∧ k < 4) ∧ (0 ≤ l ∧ l < 3) ∧ fl = 0 ∧ mt_ok P B c
theorem cl_I_9 {ρ h : am_H} {A L S K f : Int} (hI : cl_I ρ h A L S K) : cl_I ρ (am_u h 1 9 f) A L S K := cl_I_fr (fun x j z => am_u_n (by omega)) hI
theorem t_meet_99 {ρ h h1 : am_H} {A L S K : Int} {mc ms : Nat} {ls : List (Option am_V)} {Q : am_Q} (hI2 : cl_I ρ h1 A L S K) (fr : ∀ x j, ¬ (x = 1 ∧ j = 9) → ¬ (15 ≤ x ∧ x ≤ 17) → h1 x j = h x j) (f19 : h1 1 9 = 0) (hm : mc = 0 ∧ ms = 0)
    (hq : cl_Tf 0 h L S K mc ms ρ h1 → Q (some (am_I (-2))) ρ h1) : am_WP mX7_meet mc ms 99 ls [] ρ h1 Q := by
  refine am_bipush (pc' := 101) dX7_meet_99 rfl rfl (by decide) ?_
  refine am_reti dX7_meet_101 rfl ?_
  exact hq ⟨A, L, hI2, fun x j z y => fr x j y (by omega), f19, Or.inl ⟨rfl, hm.1, hm.2⟩⟩
theorem t_meet_102 {ρ h h1 : am_H} {A L S K k l i : Int} {mc ms : Nat} {v3 : Option am_V} {Q : am_Q} (hI2 : cl_I ρ h1 A L S K) (fr : ∀ x j, ¬ (x = 1 ∧ j = 9) → ¬ (15 ≤ x ∧ x ≤ 17) → h1 x j = h x j) (f19 : h1 1 9 = 0) (eP : h1 15 1 = h 11 1) (eB : h1 15 0 = h 11 0) (hall : ∀ p, 0 ≤ p → p < h 11 1 → h1 17 p = o_c h k i p) (hP0 : h 11 1 ≠ 0) (hok : mt_ok (h 11 1) (h 11 0) (o_c h k i)) (hb : wo_b h L (mt_pw (h 11 0) (h 11 1).toNat) mc ms)
    (hq : ∀ v ρ' h', cl_Tf 0 h L S K mc ms ρ' h' → gr_mt (o_nx h) (o_row h) (mt_cd (h 11 0) (o_c h k i) (h 11 1).toNat) v → Q (some (am_I v)) ρ' h') : am_WP mX7_meet mc ms 102 [some (am_R 1), some (am_I k), some (am_I l), some (am_I i), v3] [] ρ h1 Q := by
  have hC := hI2.2.1.1
  have hn58 := hC.1
  have e1 := am_lc hC 1 1 11 (by decide)
  have e2 := am_lc hC 1 3 19 (by decide)
  have k0 : am_in ρ 19 0 := ⟨by omega, by omega, rfl⟩
  have v11 : ∀ j, h1 11 j = h 11 j := fun j => fr 11 j (by omega) (by omega)
  have v12 : h1 12 = h 12 := funext fun j => fr 12 j (by omega) (by omega)
  have v13 : h1 13 = h 13 := funext fun j => fr 13 j (by omega) (by omega)
  have hb1 : wo_b h1 L (mt_pw (h1 11 0) (h1 11 1).toNat) mc ms := by
    unfold wo_b at hb ⊢
    rw [v11, v11, fr 19 7 (by omega) (by omega)]
    exact hb
  have hO1 := (cl_RO hI2.1.1 (show h1 11 1 ≠ 0 by rw [v11]; exact hP0)).1
  have hrow := o_row_in hO1
  have er1 : o_row h1 = o_row h := by unfold o_row; rw [v11, v11, v13]
  have en1 : nxt (h1 11 1) (h1 11 0) (h1 12) = o_nx h := by rw [v11, v11, v12]; rfl
  obtain ⟨o1, o2, o3, o4, o5⟩ := id hO1
  rw [v11] at o1 o2 o3 o4
  refine am_aload_n (pc' := 103) dX7_meet_102 rfl rfl rfl ?_
  refine am_getRk (ki := 3) (pc' := 106) (k := 3) (ci := 6) rfl dX7_meet_103 rfl fl_X7_31 (by first | assumption | exact ⟨by omega, by omega, rfl⟩) rfl (by assumption) (by omega) ?_
  refine am_aload_n (pc' := 107) dX7_meet_106 rfl rfl rfl ?_
  refine am_getRk (ki := 1) (pc' := 110) (k := 1) (ci := 6) rfl dX7_meet_107 rfl fl_X7_21 (by first | assumption | exact ⟨by omega, by omega, rfl⟩) rfl (by assumption) (by omega) ?_
  refine am_callVg (pc' := 113) (as := [_]) (ci := 0) (mc := mc) (bc := 0) (ms := ms) (bs := 0) rfl dX7_meet_110 rfl ok_X0_workOut ml_X7_128 im_X0_workOut se_X0_workOut rfl (Nat.le_of_ble_eq_true rfl) rfl (Nat.le_of_ble_eq_true rfl) (by first | assumption | exact ⟨by omega, by omega, rfl⟩) (t_wo hI2 (by rw [v11]; exact hP0) hb1) (fun r_110 ρ_110 h_110 q_110 g_110 e_110 => ?_)
  obtain ⟨rfl, A', L', q1, q2, q3, q4, q5⟩ := q_110
  have hC2 := q2.1
  have n2 := hC2.1
  have x1 := am_lc hC2 1 1 11 (by decide)
  have x2 := am_lc hC2 1 3 19 (by decide)
  have x3 := am_lc hC2 1 2 15 (by decide)
  have w11 : ∀ j, h_110 11 j = h 11 j := fun j => (q3 11 j (by omega)).trans (v11 j)
  have w15 : h_110 15 1 = h 11 1 := (q3 15 1 (by omega)).trans eP
  have w150 : h_110 15 0 = h 11 0 := (q3 15 0 (by omega)).trans eB
  have w17 : ∀ p, 0 ≤ p → p < h 11 1 → h_110 (15 + 2) p = o_c h k i p := fun p p0 p1 => (q3 17 p (by omega)).trans (hall p p0 p1)
  have hO2 : am_RO h_110 11 := (cl_RO q1.1.1 (by rw [w11]; exact hP0)).1
  have hO3 : am_RO h_110 15 := ⟨by omega, by omega, by omega, by omega, fun p p0 p1 => by rw [w15] at p1; rw [w17 p p0 p1, w150]; exact hok p p0 p1⟩
  have er : mt_cd (h_110 11 0) (h_110 (11 + 2)) (h_110 11 1).toNat = o_row h := by
    rw [w11, w11, show h_110 (11 + 2) = h 13 from funext fun j => (q3 13 j (by omega)).trans (fr 13 j (by omega) (by omega))]; rfl
  have er2 : mt_cd (h_110 15 0) (h_110 (15 + 2)) (h_110 15 1).toNat = mt_cd (h 11 0) (o_c h k i) (h 11 1).toNat := by
    rw [w15, w150]; exact mt_cd_eq (fun p p0 p1 => w17 p p0 (by omega))
  have b1 : 0 ≤ o_row h ∧ o_row h < h_110 19 7 := by rw [q4, ← er1]; exact hrow
  have b2 : 0 ≤ mt_cd (h 11 0) (o_c h k i) (h 11 1).toNat ∧ mt_cd (h 11 0) (o_c h k i) (h 11 1).toNat < h_110 19 7 := by
    rw [q4, v11, v11]; exact mt_cd_in o3 (fun p p0 p1 => hok p p0 (by omega))
  have hT : cl_Tf 0 h L S K mc ms ρ_110 h_110 := ⟨A', L', q1, fun x j z y => (q3 x j (by omega)).trans (fr x j y (by omega)), (q3 1 9 (by omega)).trans f19, by rw [v11, v11] at q5; exact q5⟩
  refine am_aload_n (pc' := 114) dX7_meet_113 rfl rfl rfl ?_
  refine am_getRk (ki := 3) (pc' := 117) (k := 3) (ci := 6) rfl dX7_meet_114 rfl fl_X7_31 (by first | assumption | exact ⟨by omega, by omega, rfl⟩) rfl (by assumption) (by omega) ?_
  refine am_aload_n (pc' := 118) dX7_meet_117 rfl rfl rfl ?_
  refine am_getRk (ki := 1) (pc' := 121) (k := 1) (ci := 6) rfl dX7_meet_118 rfl fl_X7_21 (by first | assumption | exact ⟨by omega, by omega, rfl⟩) rfl (by assumption) (by omega) ?_
  refine am_callVp (pc' := 124) (as := []) (ci := 3)  rfl dX7_meet_121 rfl ok_X3_code ml_X7_132 im_X3_code se_X3_code rfl (Nat.le_of_ble_eq_true rfl) rfl (Nat.le_of_ble_eq_true rfl) (by first | assumption | exact ⟨by omega, by omega, rfl⟩) (t_code (am_RA11 hC2) hO2) ?_
  refine am_aload_n (pc' := 125) dX7_meet_124 rfl rfl rfl ?_
  refine am_getRk (ki := 2) (pc' := 128) (k := 2) (ci := 6) rfl dX7_meet_125 rfl fl_X7_25 (by first | assumption | exact ⟨by omega, by omega, rfl⟩) rfl (by assumption) (by omega) ?_
  refine am_callVp (pc' := 131) (as := []) (ci := 3)  rfl dX7_meet_128 rfl ok_X3_code ml_X7_132 im_X3_code se_X3_code rfl (Nat.le_of_ble_eq_true rfl) rfl (Nat.le_of_ble_eq_true rfl) (by first | assumption | exact ⟨by omega, by omega, rfl⟩) (t_code (am_RA15 hC2) hO3) ?_
  rw [er, er2]
  refine am_callV0 (pc' := 134) (as := [_, _]) (ci := 0)  rfl dX7_meet_131 rfl ok_X0_meeting ml_X7_213 im_X0_meeting se_X0_meeting rfl (Nat.le_of_ble_eq_true rfl) rfl (Nat.le_of_ble_eq_true rfl) (by first | assumption | exact ⟨by omega, by omega, rfl⟩) (t_meeting q2 b1 b2) (fun r_131 ρ_131 h_131 q_131 g_131 e_131 => ?_)
  obtain ⟨rfl, rfl, v, rfl, hv⟩ := q_131
  rw [en1] at hv
  refine am_reti dX7_meet_134 rfl ?_
  exact hq v _ _ hT hv
theorem t_meet {ρ h : am_H} {A L S K k l i : Int} {mc ms : Nat} (hI : cl_I ρ h A L S K) (hb : cl_b (o_meetG (h 11 1) (h 11 0) k l (o_fl h k l i (h 11 1)) (o_c h k i)) h L (mt_pw (h 11 0) (h 11 1).toNat) mc ms) :
    am_CT mX7_meet mc ms [am_R 1, am_I k, am_I l, am_I i] ρ h (fun r ρ' h' => ∃ v f, r = some (am_I v) ∧ cl_Tf f h L S K mc ms ρ' h' ∧ o_meet (h 11 1) (h 11 0) (o_nx h) (o_row h) k l (o_fl h k l i (h 11 1)) (o_c h k i) v f) := by
  obtain ⟨i1, i2, i3, i4⟩ := id hI
  have hC := i2.1
  have hn58 := hC.1
  have hR := am_RA11 hC
  have hR15 := am_RA15 hC
  have hP5 := cl_P5 i1.1
  have e0 := am_lc hC 1 0 2 (by decide)
  have e1 := am_lc hC 1 1 11 (by decide)
  have e2 := am_lc hC 1 3 19 (by decide)
  have e3 := am_lc hC 1 2 15 (by decide)
  have e5 := am_lc hC 2 (-1) 4 (by decide)
  have k0 : am_in ρ 19 0 := ⟨by omega, by omega, rfl⟩
  have u11 : ∀ f j, am_u h 1 9 f 11 j = h 11 j := fun f j => am_u_n (by omega)
  have hT0 : ∀ f, mc = 0 → ms = 0 → cl_Tf f h L S K mc ms ρ (am_u h 1 9 f) := fun f z1 z2 => ⟨A, L, cl_I_9 hI, fun x j _ z => am_u_n z, am_u_s _ _ _ _, Or.inl ⟨rfl, z1, z2⟩⟩
  have hb0 : ¬ o_meetG (h 11 1) (h 11 0) k l (o_fl h k l i (h 11 1)) (o_c h k i) → mc = 0 ∧ ms = 0 := fun z => by
    rcases hb with y | y
    · exact absurd y.1 z
    · exact y.2
  have hbG : o_meetG (h 11 1) (h 11 0) k l (o_fl h k l i (h 11 1)) (o_c h k i) → wo_b h L (mt_pw (h 11 0) (h 11 1).toNat) mc ms := fun z => by
    rcases hb with y | y
    · exact y.2
    · exact absurd z y.1
  refine am_ct (ls := [some (am_R 1), some (am_I k), some (am_I l), some (am_I i), none]) ok_X7_meet rfl (fun _ => Nat.le_of_ble_eq_true rfl) (fun _ => rfl) (by intro v hv; simpa using hv) ?_
  refine am_aload_n (pc' := 1) dX7_meet_0 rfl rfl rfl ?_
  refine am_iconst (pc' := 2) dX7_meet_1 rfl rfl ?_
  refine am_putIk (ki := 9) (pc' := 5) (k := 9) (ci := 6) rfl dX7_meet_2 rfl fl_X7_56 (by first | assumption | exact ⟨by omega, by omega, rfl⟩) rfl (fun _ _ _ e => by cases e; rfl) ?_
  refine am_aload_n (pc' := 6) dX7_meet_5 rfl rfl rfl ?_
  refine am_getRk (ki := 1) (pc' := 9) (k := 1) (ci := 6) rfl dX7_meet_6 rfl fl_X7_21 (by first | assumption | exact ⟨by omega, by omega, rfl⟩) rfl (by assumption) (by omega) ?_
  refine am_callVp (pc' := 12) (as := []) (ci := 3)  rfl dX7_meet_9 rfl ok_X3_isNone ml_X7_115 im_X3_isNone se_X3_isNone rfl (Nat.le_of_ble_eq_true rfl) rfl (Nat.le_of_ble_eq_true rfl) (by first | assumption | exact ⟨by omega, by omega, rfl⟩) (t_isNone hR) ?_
  refine am_if_eq (pc' := 15) (tgt := 18) dX7_meet_12 rfl rfl (fun c_12 => ?_) (fun c_12 => ?_)
  · simp only [am_z0, am_z1, ne_eq] at c_12
    rw [u11] at c_12
    refine am_iload_n (pc' := 19) dX7_meet_18 rfl rfl rfl ?_
    refine am_callSp (pc' := 22) (as := [_])  rfl dX7_meet_19 rfl ok_X7_isSheet ml_X7_60 sm_X7_isSheet (Nat.le_of_ble_eq_true rfl) rfl (Nat.le_of_ble_eq_true rfl) (t_isSheet) ?_
    refine am_if_ne (pc' := 25) (tgt := 27) dX7_meet_22 rfl rfl (fun c_22 => ?_) (fun c_22 => ?_)
    · simp only [am_z0, am_z1, ne_eq] at c_22
      refine am_iload_n (pc' := 28) dX7_meet_27 rfl rfl rfl ?_
      refine am_callSp (pc' := 31) (as := [_])  rfl dX7_meet_28 rfl ok_X7_isLane ml_X7_64 sm_X7_isLane (Nat.le_of_ble_eq_true rfl) rfl (Nat.le_of_ble_eq_true rfl) (t_isLane) ?_
      refine am_if_ne (pc' := 34) (tgt := 37) dX7_meet_31 rfl rfl (fun c_31 => ?_) (fun c_31 => ?_)
      · simp only [am_z0, am_z1, ne_eq] at c_31
        have hk : 0 ≤ k ∧ k < 4 := by omega
        obtain ⟨hS, eS⟩ := am_SAk hC hk.1 hk.2
        obtain ⟨s1, s2, s3, s4⟩ := id hS
        have hO := (i1.2.1 k (by omega) (by omega)).1
        have u0 : am_u h 1 9 0 (3 + 2 * k) 0 = h (3 + 2 * k) 0 := am_u_n (by omega)
        have u1 : am_u h 1 9 0 (3 + 2 * k) 1 = h (3 + 2 * k) 1 := am_u_n (by omega)
        have hfb := sh_asb (h (3 + 2 * k) 0) (h (3 + 2 * k) 1) l i (h 11 1)
        refine am_aload_n (pc' := 38) dX7_meet_37 rfl rfl rfl ?_
        refine am_getRk (ki := 0) (pc' := 41) (k := 0) (ci := 6) rfl dX7_meet_38 rfl fl_X7_13 (by first | assumption | exact ⟨by omega, by omega, rfl⟩) rfl (by assumption) (by omega) ?_
        refine am_iload_n (pc' := 42) dX7_meet_41 rfl rfl rfl ?_
        refine am_aaload (pc' := 43) dX7_meet_42 rfl (by first | assumption | exact ⟨by omega, by omega, rfl⟩) (by omega) (by omega) (by assumption) (by omega) ?_
        refine am_astore (pc' := 45) (ls' := [_, _, _, _, _]) dX7_meet_43 rfl (Nat.le_of_ble_eq_true rfl) rfl rfl ?_
        refine am_aload_n (pc' := 46) dX7_meet_45 rfl rfl rfl ?_
        refine am_aload (pc' := 48) dX7_meet_46 rfl rfl ?_
        refine am_iload_n (pc' := 49) dX7_meet_48 rfl rfl rfl ?_
        refine am_iload_n (pc' := 50) dX7_meet_49 rfl rfl rfl ?_
        refine am_aload_n (pc' := 51) dX7_meet_50 rfl rfl rfl ?_
        refine am_getRk (ki := 1) (pc' := 54) (k := 1) (ci := 6) rfl dX7_meet_51 rfl fl_X7_21 (by first | assumption | exact ⟨by omega, by omega, rfl⟩) rfl (by assumption) (by omega) ?_
        refine am_getIk (ki := 1) (pc' := 57) (k := 1) (ci := 3) rfl dX7_meet_54 rfl fl_X7_95 (by first | assumption | exact ⟨by omega, by omega, rfl⟩) rfl ?_
        rw [u11]
        refine am_callVp (pc' := 60) (as := [_, _, _]) (ci := 4)  rfl dX7_meet_57 rfl ok_X4_faultAs ml_X7_67 im_X4_faultAs se_X4_faultAs rfl (Nat.le_of_ble_eq_true rfl) rfl (Nat.le_of_ble_eq_true rfl) (by first | assumption | exact ⟨by omega, by omega, rfl⟩) (t_faultAs hS (am_SO_u (by omega) hO)) ?_
        rw [u0, u1]
        change am_WP _ _ _ _ _ [am_I (o_fl h k l i (h 11 1)), am_R 1] _ _ _
        refine am_putIk (ki := 9) (pc' := 63) (k := 9) (ci := 6) rfl dX7_meet_60 rfl fl_X7_56 (by first | assumption | exact ⟨by omega, by omega, rfl⟩) rfl (fun _ _ _ e => by cases e; rfl) ?_
        rw [am_uu]
        refine am_aload_n (pc' := 64) dX7_meet_63 rfl rfl rfl ?_
        refine am_getIk (ki := 9) (pc' := 67) (k := 9) (ci := 6) rfl dX7_meet_64 rfl fl_X7_56 (by first | assumption | exact ⟨by omega, by omega, rfl⟩) rfl ?_
        rw [am_u_s]
        refine am_if_eq (pc' := 70) (tgt := 75) dX7_meet_67 rfl rfl (fun c_67 => ?_) (fun c_67 => ?_)
        · have hz := sh_as0 (show sh_as (h (3 + 2 * k) 0) (h (3 + 2 * k) 1) l i (h 11 1) = 0 from c_67)
          unfold am_SO at hO
          have hRO := (cl_RO i1.1 c_12).1
          refine am_aload_n (pc' := 76) dX7_meet_75 rfl rfl rfl ?_
          refine am_getRk (ki := 2) (pc' := 79) (k := 2) (ci := 6) rfl dX7_meet_76 rfl fl_X7_25 (by first | assumption | exact ⟨by omega, by omega, rfl⟩) rfl (by assumption) (by omega) ?_
          refine am_aload_n (pc' := 80) dX7_meet_79 rfl rfl rfl ?_
          refine am_getRk (ki := 1) (pc' := 83) (k := 1) (ci := 6) rfl dX7_meet_80 rfl fl_X7_21 (by first | assumption | exact ⟨by omega, by omega, rfl⟩) rfl (by assumption) (by omega) ?_
          refine am_callV0 (pc' := 86) (as := [_]) (ci := 3)  rfl dX7_meet_83 rfl ok_X3_takeAll ml_X7_150 im_X3_takeAll se_X3_takeAll rfl (Nat.le_of_ble_eq_true rfl) rfl (Nat.le_of_ble_eq_true rfl) (by first | assumption | exact ⟨by omega, by omega, rfl⟩) (t_takeAll hR15 hR (by omega)) (fun r_83 ρ_83 h_83 q_83 g_83 e_83 => ?_)
          obtain ⟨rfl, rfl, q1, q2, q3, q4, q5⟩ := q_83
          rw [u11] at q2 q3
          have z0 : h_83 (3 + 2 * k) 1 = h (3 + 2 * k) 1 := by rw [q1 _ _ (by simp <;> omega), am_u_n (by omega)]
          have hat : ∀ p, sh_at h_83 (3 + 2 * k) (i + p) = o_c h k i p := fun p => by
            unfold sh_at o_c sh_at
            rw [z0, q1 (3 + 2 * k + 1) _ (by simp <;> omega), am_u_n (by omega)]
          refine am_aload_n (pc' := 87) dX7_meet_86 rfl rfl rfl ?_
          refine am_getRk (ki := 2) (pc' := 90) (k := 2) (ci := 6) rfl dX7_meet_87 rfl fl_X7_25 (by first | assumption | exact ⟨by omega, by omega, rfl⟩) rfl (by assumption) (by omega) ?_
          refine am_aload (pc' := 92) dX7_meet_90 rfl rfl ?_
          refine am_iload_n (pc' := 93) dX7_meet_92 rfl rfl rfl ?_
          refine am_callV0 (pc' := 96) (as := [_, _]) (ci := 3)  rfl dX7_meet_93 rfl ok_X3_takeRow ml_X7_209 im_X3_takeRow se_X3_takeRow rfl (Nat.le_of_ble_eq_true rfl) rfl (Nat.le_of_ble_eq_true rfl) (by first | assumption | exact ⟨by omega, by omega, rfl⟩) (t_takeRow hR15 hS (by unfold am_SO; rw [z0]; exact hO) (Or.inl (by omega)) (by rw [q3]; exact hP5) (by omega)) (fun r_93 ρ_93 h_93 q_93 g_93 e_93 => ?_)
          obtain ⟨rfl, q6, q7⟩ := q_93
          have fr : ∀ x j, ¬ (x = 1 ∧ j = 9) → ¬ (15 ≤ x ∧ x ≤ 17) → h_93 x j = h x j := fun x j y1 y2 => by rw [q6 x j (by simp <;> omega), q1 x j (by simp <;> omega), am_u_n y1]
          have f19 : h_93 1 9 = 0 := by rw [q6 1 9 (by simp <;> omega), q1 1 9 (by simp <;> omega), am_u_s]; exact c_67
          have hI2 : cl_I ρ_93 h_93 A L S K := cl_I_fr (fun x j z => fr x j (by omega) (by omega)) hI
          have v11 : ∀ j, h_93 11 j = h 11 j := fun j => fr 11 j (by omega) (by omega)
          rw [q3, q2] at q7
          have eP : h_93 15 1 = h 11 1 := by rw [q6 15 1 (by simp <;> omega), q3]
          have eB : h_93 15 0 = h 11 0 := by rw [q6 15 0 (by simp <;> omega), q2]
          have q8 : (r_93 = some (am_I 0) ∧ ¬ mt_ok (h 11 1) (h 11 0) (o_c h k i)) ∨ (r_93 = some (am_I 1) ∧ mt_ok (h 11 1) (h 11 0) (o_c h k i) ∧ ∀ p, 0 ≤ p → p < h 11 1 → h_93 17 p = o_c h k i p) := by
            rcases q7 with ⟨y, p, p0, p1, p2⟩ | ⟨y, hall⟩
            · exact Or.inl ⟨y, fun z => p2 (by rw [hat]; exact z p p0 p1)⟩
            · exact Or.inr ⟨y, fun p p0 p1 => by rw [← hat]; exact (hall p p0 p1).2, fun p p0 p1 => by rw [← hat]; exact (hall p p0 p1).1⟩
          rcases q8 with ⟨rfl, hno⟩ | ⟨rfl, hok, hall⟩
          · refine am_if_ne (pc' := 99) (tgt := 102) dX7_meet_96 rfl rfl (fun c_96 => ?_) (fun c_96 => ?_)
            · first | (exfalso; omega) | exact t_meet_102 hI2 fr f19 eP eB hall c_12 hok (hbG ⟨c_12, hk, by omega, c_67, hok⟩) (fun v ρ' h' y1 y2 => ⟨v, 0, rfl, y1, Or.inr (Or.inr (Or.inr (Or.inr (Or.inr ⟨c_12, hk, by omega, c_67, hok, rfl, y2⟩))))⟩)
            · first | (exfalso; omega) | exact t_meet_99 hI2 fr f19 (hb0 (fun z => hno z.2.2.2.2)) (fun y => ⟨_, 0, rfl, y, Or.inr (Or.inr (Or.inr (Or.inr (Or.inl ⟨c_12, hk, by omega, c_67, hno, rfl, rfl⟩))))⟩)
          · refine am_if_ne (pc' := 99) (tgt := 102) dX7_meet_96 rfl rfl (fun c_96 => ?_) (fun c_96 => ?_)
            · first | (exfalso; omega) | exact t_meet_102 hI2 fr f19 eP eB hall c_12 hok (hbG ⟨c_12, hk, by omega, c_67, hok⟩) (fun v ρ' h' y1 y2 => ⟨v, 0, rfl, y1, Or.inr (Or.inr (Or.inr (Or.inr (Or.inr ⟨c_12, hk, by omega, c_67, hok, rfl, y2⟩))))⟩)
            · first | (exfalso; omega) | exact t_meet_99 hI2 fr f19 (hb0 (fun z => hno z.2.2.2.2)) (fun y => ⟨_, 0, rfl, y, Or.inr (Or.inr (Or.inr (Or.inr (Or.inl ⟨c_12, hk, by omega, c_67, hno, rfl, rfl⟩))))⟩)
        · refine am_aload_n (pc' := 71) dX7_meet_70 rfl rfl rfl ?_
          refine am_callVp (pc' := 74) (as := []) (ci := 6)  rfl dX7_meet_71 rfl ok_X7_answerOfFault ml_X7_71 im_X7_answerOfFault se_X7_answerOfFault rfl (Nat.le_of_ble_eq_true rfl) rfl (Nat.le_of_ble_eq_true rfl) (by first | assumption | exact ⟨by omega, by omega, rfl⟩) (t_answerOfFault hC (by rw [am_u_s]; exact hfb)) ?_
          refine am_reti dX7_meet_74 rfl ?_
          exact ⟨_, _, rfl, hT0 _ (hb0 (fun z => c_67 z.2.2.2.1)).1 (hb0 (fun z => c_67 z.2.2.2.1)).2, Or.inr (Or.inr (Or.inr (Or.inl ⟨c_12, hk, by omega, c_67, by rw [am_u_s], rfl⟩)))⟩
      · simp only [am_z0, am_z1, ne_eq] at c_31
        refine am_bipush (pc' := 36) dX7_meet_34 rfl rfl (by decide) ?_
        refine am_reti dX7_meet_36 rfl ?_
        exact ⟨_, 0, rfl, hT0 0 (hb0 (fun z => c_31 z.2.2.1)).1 (hb0 (fun z => c_31 z.2.2.1)).2, Or.inr (Or.inr (Or.inl ⟨by omega, by omega, c_31, rfl, rfl⟩))⟩
    · simp only [am_z0, am_z1, ne_eq] at c_22
      refine am_iconst (pc' := 26) dX7_meet_25 rfl rfl ?_
      refine am_reti dX7_meet_26 rfl ?_
      exact ⟨_, 0, rfl, hT0 0 (hb0 (fun z => c_22 z.2.1)).1 (hb0 (fun z => c_22 z.2.1)).2, Or.inr (Or.inl ⟨by omega, c_22, rfl, rfl⟩)⟩
  · simp only [am_z0, am_z1, ne_eq] at c_12
    refine am_bipush (pc' := 17) dX7_meet_15 rfl rfl (by decide) ?_
    refine am_reti dX7_meet_17 rfl ?_
    exact ⟨_, 0, rfl, hT0 0 (hb0 (fun z => z.1 (by rw [u11] at c_12; exact c_12))).1 (hb0 (fun z => z.1 (by rw [u11] at c_12; exact c_12))).2, Or.inl ⟨by rw [u11] at c_12; exact c_12, rfl, rfl⟩⟩
