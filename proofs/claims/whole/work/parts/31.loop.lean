theorem lw_last {ρ h : am_H} {Lx : Nat} {xs : Int → Int} {A L S K i : Int} {Q : am_Q} (hLx : Lx ≤ 3072) (hq : ∀ ρ h, Q (some (am_I 1)) ρ h) (hx : (Lx : Int) < i + 6) (_hJ : lw_J ρ h A L S K) : am_WP (mL_law Lx xs) (lw_pc L K) (lw_ps L K) 18 [some (am_R (-1)), some (am_R 1), some (am_R 38), some (am_I i)] [] ρ h Q := by
  refine am_iload_n (pc' := 19) dL_law_18 rfl rfl rfl ?_
  refine am_aload_n (pc' := 20) dL_law_19 rfl rfl rfl ?_
  refine am_slen (pc' := 21) rfl dL_law_20 rfl ?_
  refine am_bipush (pc' := 23) dL_law_21 rfl rfl (by decide) ?_
  refine am_isub (pc' := 24) dL_law_23 rfl ⟨by omega, by omega⟩ ?_
  refine am_icmp_gt (pc' := 27) (tgt := 1102) dL_law_24 rfl rfl (fun c_24 => ?_) (fun c_24 => ?_)
  · refine am_iconst (pc' := 1103) dL_law_1102 rfl rfl ?_
    refine am_retz dL_law_1103 rfl (by first | exact Or.inl rfl | exact Or.inr rfl | omega) ?_
    exact hq ρ h
  · exfalso; omega
/-! the law's loop, and its beginning -/
theorem lw_loop {Lx : Nat} {xs : Int → Int} {Q : am_Q} (hLx : Lx ≤ 3072) (hq : ∀ ρ h, Q (some (am_I 1)) ρ h) :
    ∀ (n : Nat) (ρ h : am_H) (A L S K i : Int), (3100 - i).toNat < n → 0 ≤ i → i ≤ 3100 → lw_J ρ h A L S K → am_WP (mL_law Lx xs) (lw_pc L K) (lw_ps L K) 18 [some (am_R (-1)), some (am_R 1), some (am_R 38), some (am_I i)] [] ρ h Q := by
  intro n
  induction n with
  | zero => intro ρ h A L S K i hn h0 h1 hJ; omega
  | succ n ih =>
    intro ρ h A L S K i hn h0 h1 hJ
    have K1096 : ∀ ρ h A L S K, lw_J ρ h A L S K → am_WP (mL_law Lx xs) (lw_pc L K) (lw_ps L K) 1096 [some (am_R (-1)), some (am_R 1), some (am_R 38), some (am_I i)] [] ρ h Q := by
      intro ρ h A L S K hJ
      by_cases hb : i ≤ 3080
      · refine am_iinc (pc' := 1099) (ls' := [_, _, _, _]) dL_law_1096 rfl rfl ⟨by omega, by omega⟩ (Nat.le_of_ble_eq_true rfl) rfl rfl ?_
        refine am_goto (pc' := 18) dL_law_1099 rfl ?_
        exact ih _ _ _ _ _ _ _ (by omega) (by omega) (by omega) hJ
      · refine am_iinc (pc' := 1099) (ls' := [_, _, _, _]) dL_law_1096 rfl rfl ⟨by omega, by omega⟩ (Nat.le_of_ble_eq_true rfl) rfl rfl ?_
        refine am_goto (pc' := 18) dL_law_1099 rfl ?_
        exact lw_last hLx hq (by omega) hJ
    by_cases hx : i + 6 ≤ (Lx : Int)
    · refine am_iload_n (pc' := 19) dL_law_18 rfl rfl rfl ?_
      refine am_aload_n (pc' := 20) dL_law_19 rfl rfl rfl ?_
      refine am_slen (pc' := 21) rfl dL_law_20 rfl ?_
      refine am_bipush (pc' := 23) dL_law_21 rfl rfl (by decide) ?_
      refine am_isub (pc' := 24) dL_law_23 rfl ⟨by omega, by omega⟩ ?_
      refine am_icmp_gt (pc' := 27) (tgt := 1102) dL_law_24 rfl rfl (fun c_24 => ?_) (fun c_24 => ?_)
      · exfalso; omega
      · refine am_aload_n (pc' := 28) dL_law_27 rfl rfl rfl ?_
        refine am_iload_n (pc' := 29) dL_law_28 rfl rfl rfl ?_
        refine am_sld (pc' := 30) rfl dL_law_29 rfl (by omega) (by omega) ?_
        refine am_bipush (pc' := 32) dL_law_30 rfl rfl (by decide) ?_
        refine am_iand (pc' := 33) dL_law_32 rfl ?_
        refine am_case (0) (fun c_33_0 => ?_) (fun c_33_0 => ?_)
        · refine am_tabIn (pc' := 160) (off := 127) dL_law_33 (by decide) (by decide) rfl rfl ?_
          exact lw_c0 (by omega) hLx hJ K1096
        refine am_case (1) (fun c_33_1 => ?_) (fun c_33_1 => ?_)
        · refine am_tabIn (pc' := 213) (off := 180) dL_law_33 (by decide) (by decide) rfl rfl ?_
          exact lw_c1 (by omega) hLx hJ K1096
        refine am_case (2) (fun c_33_2 => ?_) (fun c_33_2 => ?_)
        · refine am_tabIn (pc' := 246) (off := 213) dL_law_33 (by decide) (by decide) rfl rfl ?_
          exact lw_c2 (by omega) hLx hJ K1096
        refine am_case (3) (fun c_33_3 => ?_) (fun c_33_3 => ?_)
        · refine am_tabIn (pc' := 279) (off := 246) dL_law_33 (by decide) (by decide) rfl rfl ?_
          exact lw_c3 (by omega) hLx hJ K1096
        refine am_case (4) (fun c_33_4 => ?_) (fun c_33_4 => ?_)
        · refine am_tabIn (pc' := 302) (off := 269) dL_law_33 (by decide) (by decide) rfl rfl ?_
          exact lw_c4 (by omega) hLx hJ K1096
        refine am_case (5) (fun c_33_5 => ?_) (fun c_33_5 => ?_)
        · refine am_tabIn (pc' := 365) (off := 332) dL_law_33 (by decide) (by decide) rfl rfl ?_
          exact lw_c5 (by omega) hLx hJ K1096
        refine am_case (6) (fun c_33_6 => ?_) (fun c_33_6 => ?_)
        · refine am_tabIn (pc' := 428) (off := 395) dL_law_33 (by decide) (by decide) rfl rfl ?_
          exact lw_c6 (by omega) hLx hJ K1096
        refine am_case (7) (fun c_33_7 => ?_) (fun c_33_7 => ?_)
        · refine am_tabIn (pc' := 451) (off := 418) dL_law_33 (by decide) (by decide) rfl rfl ?_
          exact lw_c7 (by omega) hLx hJ K1096
        refine am_case (8) (fun c_33_8 => ?_) (fun c_33_8 => ?_)
        · refine am_tabIn (pc' := 474) (off := 441) dL_law_33 (by decide) (by decide) rfl rfl ?_
          exact lw_c8 (by omega) hLx hJ K1096
        refine am_case (9) (fun c_33_9 => ?_) (fun c_33_9 => ?_)
        · refine am_tabIn (pc' := 497) (off := 464) dL_law_33 (by decide) (by decide) rfl rfl ?_
          exact lw_c9 (by omega) hLx hJ K1096
        refine am_case (10) (fun c_33_10 => ?_) (fun c_33_10 => ?_)
        · refine am_tabIn (pc' := 520) (off := 487) dL_law_33 (by decide) (by decide) rfl rfl ?_
          exact lw_c10 (by omega) hLx hJ K1096
        refine am_case (11) (fun c_33_11 => ?_) (fun c_33_11 => ?_)
        · refine am_tabIn (pc' := 563) (off := 530) dL_law_33 (by decide) (by decide) rfl rfl ?_
          exact lw_c11 (by omega) hLx hJ K1096
        refine am_case (12) (fun c_33_12 => ?_) (fun c_33_12 => ?_)
        · refine am_tabIn (pc' := 586) (off := 553) dL_law_33 (by decide) (by decide) rfl rfl ?_
          exact lw_c12 (by omega) hLx hJ K1096
        refine am_case (13) (fun c_33_13 => ?_) (fun c_33_13 => ?_)
        · refine am_tabIn (pc' := 629) (off := 596) dL_law_33 (by decide) (by decide) rfl rfl ?_
          exact lw_c13 (by omega) hLx hJ K1096
        refine am_case (14) (fun c_33_14 => ?_) (fun c_33_14 => ?_)
        · refine am_tabIn (pc' := 652) (off := 619) dL_law_33 (by decide) (by decide) rfl rfl ?_
          exact lw_c14 (by omega) hLx hJ K1096
        refine am_case (15) (fun c_33_15 => ?_) (fun c_33_15 => ?_)
        · refine am_tabIn (pc' := 675) (off := 642) dL_law_33 (by decide) (by decide) rfl rfl ?_
          exact lw_c15 (by omega) hLx hJ K1096
        refine am_case (16) (fun c_33_16 => ?_) (fun c_33_16 => ?_)
        · refine am_tabIn (pc' := 698) (off := 665) dL_law_33 (by decide) (by decide) rfl rfl ?_
          exact lw_c16 (by omega) hLx hJ K1096
        refine am_case (17) (fun c_33_17 => ?_) (fun c_33_17 => ?_)
        · refine am_tabIn (pc' := 752) (off := 719) dL_law_33 (by decide) (by decide) rfl rfl ?_
          exact lw_c17 (by omega) hLx hJ K1096
        refine am_case (18) (fun c_33_18 => ?_) (fun c_33_18 => ?_)
        · refine am_tabIn (pc' := 795) (off := 762) dL_law_33 (by decide) (by decide) rfl rfl ?_
          exact lw_c18 (by omega) hLx hJ K1096
        refine am_case (19) (fun c_33_19 => ?_) (fun c_33_19 => ?_)
        · refine am_tabIn (pc' := 818) (off := 785) dL_law_33 (by decide) (by decide) rfl rfl ?_
          exact lw_c19 (by omega) hLx hJ K1096
        refine am_case (20) (fun c_33_20 => ?_) (fun c_33_20 => ?_)
        · refine am_tabIn (pc' := 861) (off := 828) dL_law_33 (by decide) (by decide) rfl rfl ?_
          exact lw_c20 (by omega) hLx hJ K1096
        refine am_case (21) (fun c_33_21 => ?_) (fun c_33_21 => ?_)
        · refine am_tabIn (pc' := 905) (off := 872) dL_law_33 (by decide) (by decide) rfl rfl ?_
          exact lw_c21 (by omega) hLx hJ K1096
        refine am_case (22) (fun c_33_22 => ?_) (fun c_33_22 => ?_)
        · refine am_tabIn (pc' := 968) (off := 935) dL_law_33 (by decide) (by decide) rfl rfl ?_
          exact lw_c22 (by omega) hLx hJ K1096
        refine am_case (23) (fun c_33_23 => ?_) (fun c_33_23 => ?_)
        · refine am_tabIn (pc' := 991) (off := 958) dL_law_33 (by decide) (by decide) rfl rfl ?_
          exact lw_c23 (by omega) hLx hJ K1096
        refine am_case (24) (fun c_33_24 => ?_) (fun c_33_24 => ?_)
        · refine am_tabIn (pc' := 1014) (off := 981) dL_law_33 (by decide) (by decide) rfl rfl ?_
          exact lw_c24 (by omega) hLx hJ K1096
        refine am_case (25) (fun c_33_25 => ?_) (fun c_33_25 => ?_)
        · refine am_tabIn (pc' := 1047) (off := 1014) dL_law_33 (by decide) (by decide) rfl rfl ?_
          exact lw_c25 (by omega) hLx hJ K1096
        refine am_case (26) (fun c_33_26 => ?_) (fun c_33_26 => ?_)
        · refine am_tabIn (pc' := 1060) (off := 1027) dL_law_33 (by decide) (by decide) rfl rfl ?_
          exact lw_c26 (by omega) hLx hJ K1096
        refine am_case (27) (fun c_33_27 => ?_) (fun c_33_27 => ?_)
        · refine am_tabIn (pc' := 1073) (off := 1040) dL_law_33 (by decide) (by decide) rfl rfl ?_
          exact lw_c27 (by omega) hLx hJ K1096
        refine am_tabOut (pc' := 1096) dL_law_33 rfl (by omega) ?_
        exact K1096 _ _ _ _ _ _ hJ
    · exact lw_last hLx hq (by omega) hJ
theorem lw_begin {ρ h : am_H} (W : wd ρ h 58 (in_L8 ((38, -1, 0) :: in_L7 [(1, -1, 0)])) (in_K8 (in_K7 []))) : lw_J ρ h 24 0 30 0 := by
  obtain ⟨⟨n0, n1⟩, wr, wh, _, _⟩ := W
  have kC : ∀ q ∈ am_layC, (0 < q.1 ∧ q.1 < 58) ∧ tb (in_L8 ((38, -1, 0) :: in_L7 [(1, -1, 0)])) q.1 q.2.1 = q.2.2 := by decide +kernel
  have kM : ∀ q ∈ am_layM, (0 < q.1 ∧ q.1 < 58) ∧ tb (in_L8 ((38, -1, 0) :: in_L7 [(1, -1, 0)])) q.1 q.2.1 = q.2.2 := by decide +kernel
  have hC : am_LC ρ := ⟨by omega, fun q hq => by rw [wr _ _ (kC q hq).1.1 (kC q hq).1.2]; exact (kC q hq).2⟩
  have hM : am_LM ρ := ⟨by omega, fun q hq => by rw [wr _ _ (kM q hq).1.1 (kM q hq).1.2]; exact (kM q hq).2⟩
  have r : ∀ x j, 0 < x → x < 58 → ρ x j = tb (in_L8 ((38, -1, 0) :: in_L7 [(1, -1, 0)])) x j := wr
  have v : ∀ x j, 0 < x → x < 58 → h x j = tb (in_K8 (in_K7 [])) x j := wh
  have hA : am_DA ρ 24 0 := ⟨⟨by decide, by omega, rfl⟩, Or.inl rfl, by omega, ⟨(r 19 1 (by decide) (by decide)).trans (by decide +kernel), (r 19 2 (by decide) (by decide)).trans (by decide +kernel), (r 19 3 (by decide) (by decide)).trans (by decide +kernel), (r 19 4 (by decide) (by decide)).trans (by decide +kernel), (r 19 5 (by decide) (by decide)).trans (by decide +kernel)⟩, ⟨(r 24 (-1) (by decide) (by decide)).trans (by decide +kernel), (r 25 (-1) (by decide) (by decide)).trans (by decide +kernel), (r 26 (-1) (by decide) (by decide)).trans (by decide +kernel), (r 27 (-1) (by decide) (by decide)).trans (by decide +kernel), (r 28 (-1) (by decide) (by decide)).trans (by decide +kernel)⟩, by decide, by decide⟩
  have hS : am_DS ρ 30 0 := ⟨⟨by decide, by omega, rfl⟩, Or.inl rfl, by omega, ⟨(r 29 0 (by decide) (by decide)).trans (by decide +kernel), (r 29 1 (by decide) (by decide)).trans (by decide +kernel), (r 29 2 (by decide) (by decide)).trans (by decide +kernel)⟩, ⟨(r 30 (-1) (by decide) (by decide)).trans (by decide +kernel), (r 31 (-1) (by decide) (by decide)).trans (by decide +kernel), (r 32 (-1) (by decide) (by decide)).trans (by decide +kernel)⟩, by decide, by decide⟩
  have h111 : h 11 1 = 0 := (v 11 1 (by decide) (by decide)).trans (by decide +kernel)
  have h110 : h 11 0 = 0 := (v 11 0 (by decide) (by decide)).trans (by decide +kernel)
  have h333 : h 33 3 = 0 := (v 33 3 (by decide) (by decide)).trans (by decide +kernel)
  have h197 : h 19 7 = 0 := (v 19 7 (by decide) (by decide)).trans (by decide +kernel)
  have h294 : h 29 4 = -9 := (v 29 4 (by decide) (by decide)).trans (by decide +kernel)
  have hsh : ∀ k, 0 ≤ k → k < 4 → h (3 + 2 * k) 0 = -1 ∧ h (3 + 2 * k) 1 = 0 ∧ h 54 k = -1 ∧ h 55 k = 0 := fun k k0 k1 => by
    rcases (show k = 0 ∨ k = 1 ∨ k = 2 ∨ k = 3 by omega) with rfl | rfl | rfl | rfl
    · exact ⟨(v 3 0 (by decide) (by decide)).trans (by decide +kernel), (v 3 1 (by decide) (by decide)).trans (by decide +kernel), (v 54 0 (by decide) (by decide)).trans (by decide +kernel), (v 55 0 (by decide) (by decide)).trans (by decide +kernel)⟩
    · exact ⟨(v 5 0 (by decide) (by decide)).trans (by decide +kernel), (v 5 1 (by decide) (by decide)).trans (by decide +kernel), (v 54 1 (by decide) (by decide)).trans (by decide +kernel), (v 55 1 (by decide) (by decide)).trans (by decide +kernel)⟩
    · exact ⟨(v 7 0 (by decide) (by decide)).trans (by decide +kernel), (v 7 1 (by decide) (by decide)).trans (by decide +kernel), (v 54 2 (by decide) (by decide)).trans (by decide +kernel), (v 55 2 (by decide) (by decide)).trans (by decide +kernel)⟩
    · exact ⟨(v 9 0 (by decide) (by decide)).trans (by decide +kernel), (v 9 1 (by decide) (by decide)).trans (by decide +kernel), (v 54 3 (by decide) (by decide)).trans (by decide +kernel), (v 55 3 (by decide) (by decide)).trans (by decide +kernel)⟩
  refine ⟨⟨⟨Or.inl ⟨h111, h110⟩, fun k k0 k1 => ?_, by omega, by omega, fun k k0 k1 => by omega⟩, ⟨hC, hM, hA, hS, Or.inl (by decide)⟩, Or.inl h197, fun k k0 k1 => by omega, Or.inl h294⟩, ⟨⟨?_, ?_, ?_, ?_, ?_, ?_⟩, fun p p0 p1 => by omega, fun k k0 k1 => by omega, fun k k0 k1 => ?_⟩⟩
  · have z := hsh k k0 k1
    unfold am_SO
    omega
  · rw [h111]; exact (v 38 1 (by decide) (by decide)).trans (by decide +kernel)
  · rw [h110]; exact (v 38 2 (by decide) (by decide)).trans (by decide +kernel)
  · exact (v 38 3 (by decide) (by decide)).trans ((by decide +kernel : tb (in_K8 (in_K7 [])) 38 3 = tb (in_K8 (in_K7 [])) 1 7).trans (v 1 7 (by decide) (by decide)).symm)
  · exact (v 38 31 (by decide) (by decide)).trans ((by decide +kernel : tb (in_K8 (in_K7 [])) 38 31 = tb (in_K8 (in_K7 [])) 1 8).trans (v 1 8 (by decide) (by decide)).symm)
  · exact (v 38 0 (by decide) (by decide)).trans ((by decide +kernel : tb (in_K8 (in_K7 [])) 38 0 = tb (in_K8 (in_K7 [])) 1 9).trans (v 1 9 (by decide) (by decide)).symm)
  · rw [h333]; exact (v 38 23 (by decide) (by decide)).trans (by decide +kernel)
  · obtain ⟨z1, z2, z3, z4⟩ := hsh k k0 k1
    exact ⟨by rw [md_ln_n (by omega), z1], by omega, fun y => absurd z1 y⟩
theorem lw_main {Lx : Nat} {xs : Int → Int} {Q : am_Q} {ρ h : am_H} (hLx : Lx ≤ 3072) (hq : ∀ ρ h, Q (some (am_I 1)) ρ h) (W : wd ρ h 1 [] []) : am_WP (mL_law Lx xs) 600000 7302250 0 [some (am_R (-1)), none, none, none] [] ρ h Q := by
  refine am_WPle (bc' := 209) (bs' := 1221607) (Nat.le_of_ble_eq_true rfl) (Nat.le_of_ble_eq_true rfl) ?_
  refine wd_newo (pc' := 3) (ci := 6) (N := 10) W rfl rfl dL_law_0 rfl rfl cl_L_7 ia_X7 in_X7 (by first | assumption | rfl) (fun ρ h W => ?_)
  first | refine am_dupR (pc' := 4) dL_law_3 rfl ?_ | refine am_dupI (pc' := 4) dL_law_3 rfl ?_
  refine am_callI (pc' := 7) (mc := 36) (bc := 172) (ms := 366) (bs := 1221231) dL_law_4 rfl ok_X7_init rfl ml_L_9 im_X7_init rfl (Nat.le_of_ble_eq_true rfl) (Nat.le_of_ble_eq_true rfl) (t7_init W) (fun r_4 ρ_4 h_4 q_4 g_4 e_4 => ?_)
  obtain ⟨rfl, W⟩ := q_4
  refine am_astore_n (pc' := 8) (ls' := [_, _, _, _]) dL_law_7 rfl rfl (Nat.le_of_ble_eq_true rfl) rfl rfl ?_
  refine wd_newo (pc' := 11) (ci := 7) (N := 32) W rfl rfl dL_law_8 rfl rfl cl_L_10 ia_X8 in_X8 (by first | assumption | rfl) (fun ρ h W => ?_)
  first | refine am_dupR (pc' := 12) dL_law_11 rfl ?_ | refine am_dupI (pc' := 12) dL_law_11 rfl ?_
  refine am_callI (pc' := 15) (mc := 19) (bc := 152) (ms := 39247) (bs := 1181952) dL_law_12 rfl ok_X8_init rfl ml_L_12 im_X8_init rfl (Nat.le_of_ble_eq_true rfl) (Nat.le_of_ble_eq_true rfl) (t8_init W) (fun r_12 ρ_12 h_12 q_12 g_12 e_12 => ?_)
  obtain ⟨rfl, W⟩ := q_12
  refine am_astore_n (pc' := 16) (ls' := [_, _, _, _]) dL_law_15 rfl rfl (Nat.le_of_ble_eq_true rfl) rfl rfl ?_
  refine am_iconst (pc' := 17) dL_law_16 rfl rfl ?_
  refine am_istore_n (pc' := 18) (ls' := [_, _, _, _]) dL_law_17 rfl rfl (Nat.le_of_ble_eq_true rfl) rfl rfl ?_
  exact lw_loop hLx hq 3101 _ _ 24 0 30 0 0 (by decide) (by decide) (by decide) (lw_begin W)
