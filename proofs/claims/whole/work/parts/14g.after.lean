/-! DifferRings: after, odds -/
def o_after (nx : Int → Int) (P B c p t v : Int) : Prop := ∃ tl M, gr_tl nx c tl ∧ gr_rd nx c M ∧ v = dg P B (gi nx (bh_left t tl M).toNat c) p
def o_g2 (i j : Prop) (A : Int → Prop) (v : Int) : Prop := (¬ i ∧ v = -1) ∨ (i ∧ ¬ j ∧ v = -2) ∨ (i ∧ j ∧ A v)
theorem t_after {ρ h : am_H} {A L S K p t : Int} {mc ms : Nat} (hI : cl_I ρ h A L S K) (hb : cl_b ((0 ≤ p ∧ p < h 11 1) ∧ (0 ≤ t ∧ t ≤ 1000000000000000000)) h L (mt_pw (h 11 0) (h 11 1).toNat) mc ms) :
    am_CT mX7_after mc ms [am_R 1, am_I p, am_L t] ρ h (fun r ρ' h' => cl_T ρ h L S K mc ms ρ' h' ∧ ∃ v, r = some (am_I v) ∧ o_g2 (0 ≤ p ∧ p < h 11 1) (0 ≤ t ∧ t ≤ 1000000000000000000) (o_after (o_nx h) (h 11 1) (h 11 0) (o_row h) p t) v) := by
  have hC := hI.2.1.1
  have hn58 := hC.1
  have hR := am_RA11 hC
  have e1 := am_lc hC 1 1 11 (by decide)
  have e2 := am_lc hC 1 3 19 (by decide)
  have k0 : am_in ρ 19 0 := ⟨by omega, by omega, rfl⟩
  refine am_ct (ls := [some (am_R 1), some (am_I p), some (am_L t), none]) ok_X7_after rfl (fun _ => Nat.le_of_ble_eq_true rfl) (fun _ => rfl) (by intro v hv; simpa using hv) ?_
  rcases hb with ⟨hg, hb⟩ | ⟨hg, rfl, rfl⟩
  · have hP0 : h 11 1 ≠ 0 := by omega
    have hO := (cl_RO hI.1.1 hP0).1
    have hrow := o_row_in hO
    refine am_aload_n (pc' := 1) dX7_after_0 rfl rfl rfl ?_
    refine am_getRk (ki := 1) (pc' := 4) (k := 1) (ci := 6) rfl dX7_after_1 rfl fl_X7_21 (by first | assumption | exact ⟨by omega, by omega, rfl⟩) rfl (by assumption) (by omega) ?_
    refine am_iload_n (pc' := 5) dX7_after_4 rfl rfl rfl ?_
    refine am_callVp (pc' := 8) (as := [_]) (ci := 3)  rfl dX7_after_5 rfl ok_X3_has ml_X7_98 im_X3_has se_X3_has rfl (Nat.le_of_ble_eq_true rfl) rfl (Nat.le_of_ble_eq_true rfl) (by first | assumption | exact ⟨by omega, by omega, rfl⟩) (t_has hR) ?_
    refine am_if_ne (pc' := 11) (tgt := 13) dX7_after_8 rfl rfl (fun c_8 => ?_) (fun c_8 => ?_)
    · simp only [am_z0, am_z1, ne_eq] at c_8
      refine am_lload_n (pc' := 14) dX7_after_13 rfl rfl rfl ?_
      refine am_lconst0 (pc' := 15) dX7_after_14 rfl ?_
      refine am_lcmp_lt (pc1 := 16) (pc' := 19) (tgt := 27) dX7_after_15 rfl dX7_after_16 rfl rfl (fun c_15 => ?_) (fun c_15 => ?_)
      · exfalso; omega
      · refine am_lload_n (pc' := 20) dX7_after_19 rfl rfl rfl ?_
        refine am_ldc2 (pc' := 23) (x := 1000000000000000000) dX7_after_20 rfl kl_X7_126 rfl rfl ?_
        refine am_lcmp_le (pc1 := 24) (pc' := 27) (tgt := 30) dX7_after_23 rfl dX7_after_24 rfl rfl (fun c_23 => ?_) (fun c_23 => ?_)
        · refine am_aload_n (pc' := 31) dX7_after_30 rfl rfl rfl ?_
          refine am_getRk (ki := 3) (pc' := 34) (k := 3) (ci := 6) rfl dX7_after_31 rfl fl_X7_31 (by first | assumption | exact ⟨by omega, by omega, rfl⟩) rfl (by assumption) (by omega) ?_
          refine am_aload_n (pc' := 35) dX7_after_34 rfl rfl rfl ?_
          refine am_getRk (ki := 1) (pc' := 38) (k := 1) (ci := 6) rfl dX7_after_35 rfl fl_X7_21 (by first | assumption | exact ⟨by omega, by omega, rfl⟩) rfl (by assumption) (by omega) ?_
          refine am_callVg (pc' := 41) (as := [_]) (ci := 0) (mc := mc) (bc := 0) (ms := ms) (bs := 0) rfl dX7_after_38 rfl ok_X0_workOut ml_X7_128 im_X0_workOut se_X0_workOut rfl (Nat.le_of_ble_eq_true rfl) rfl (Nat.le_of_ble_eq_true rfl) (by first | assumption | exact ⟨by omega, by omega, rfl⟩) (t_wo hI hP0 hb) (fun r_38 ρ_38 h_38 q_38 g_38 e_38 => ?_)
          obtain ⟨rfl, A', L', q1, q2, q3, q4, q5⟩ := q_38
          have hC2 := q2.1
          have n2 := hC2.1
          have x1 := am_lc hC2 1 1 11 (by decide)
          have x2 := am_lc hC2 1 3 19 (by decide)
          have hN := ar_QN q2
          have hT : cl_T ρ h L S K mc ms ρ_38 h_38 := ⟨A', L', q1, fun x j z => q3 x j (by omega), q5⟩
          have hD := q2.2.1
          have u0 : ∀ k, h_38 11 k = h 11 k := fun k => q3 11 k (by omega)
          have hO2 : am_RO h_38 11 := (cl_RO q1.1.1 (by rw [u0]; exact hP0)).1
          have er : mt_cd (h_38 11 0) (h_38 (11 + 2)) (h_38 11 1).toNat = o_row h := by
            rw [u0, u0, show h_38 (11 + 2) = h 13 from funext fun k => q3 13 k (by omega)]; rfl
          have hr2 : 0 ≤ o_row h ∧ o_row h < h_38 19 7 := by rw [q4]; exact hrow
          refine am_aload_n (pc' := 42) dX7_after_41 rfl rfl rfl ?_
          refine am_getRk (ki := 3) (pc' := 45) (k := 3) (ci := 6) rfl dX7_after_42 rfl fl_X7_31 (by first | assumption | exact ⟨by omega, by omega, rfl⟩) rfl (by assumption) (by omega) ?_
          refine am_aload_n (pc' := 46) dX7_after_45 rfl rfl rfl ?_
          refine am_getRk (ki := 3) (pc' := 49) (k := 3) (ci := 6) rfl dX7_after_46 rfl fl_X7_31 (by first | assumption | exact ⟨by omega, by omega, rfl⟩) rfl (by assumption) (by omega) ?_
          refine am_aload_n (pc' := 50) dX7_after_49 rfl rfl rfl ?_
          refine am_getRk (ki := 1) (pc' := 53) (k := 1) (ci := 6) rfl dX7_after_50 rfl fl_X7_21 (by first | assumption | exact ⟨by omega, by omega, rfl⟩) rfl (by assumption) (by omega) ?_
          refine am_callVp (pc' := 56) (as := []) (ci := 3)  rfl dX7_after_53 rfl ok_X3_code ml_X7_132 im_X3_code se_X3_code rfl (Nat.le_of_ble_eq_true rfl) rfl (Nat.le_of_ble_eq_true rfl) (by first | assumption | exact ⟨by omega, by omega, rfl⟩) (t_code (am_RA11 hC2) hO2) ?_
          rw [er]
          refine am_lload_n (pc' := 57) dX7_after_56 rfl rfl rfl ?_
          refine am_callV0 (pc' := 60) (as := [_, _]) (ci := 0)  rfl dX7_after_57 rfl ok_X0_behind ml_X7_135 im_X0_behind se_X0_behind rfl (Nat.le_of_ble_eq_true rfl) rfl (Nat.le_of_ble_eq_true rfl) (by first | assumption | exact ⟨by omega, by omega, rfl⟩) (t_behind q2 hr2 hg.2) (fun r_57 ρ_57 h_57 q_57 g_57 e_57 => ?_)
          obtain ⟨rfl, rfl, M, hM, rfl⟩ := q_57
          have hgi := gi_in (ar_Qin q2) hr2.1 hr2.2 (bh_left t (h_57 (A' + 4) (o_row h)) M).toNat
          refine am_iload_n (pc' := 61) dX7_after_60 rfl rfl rfl ?_
          refine am_callVp (pc' := 64) (as := [_, _]) (ci := 0)  rfl dX7_after_61 rfl ok_X0_numberIn ml_X7_139 im_X0_numberIn se_X0_numberIn rfl (Nat.le_of_ble_eq_true rfl) rfl (Nat.le_of_ble_eq_true rfl) (by first | assumption | exact ⟨by omega, by omega, rfl⟩) (t_numberIn q2 (by omega) hg.1) ?_
          refine am_reti dX7_after_64 rfl ?_
          exact ⟨hT, _, rfl, Or.inr (Or.inr ⟨hg.1, hg.2, _, M, (q2.2.2.1.2.2.1 _ hr2.1 hr2.2).1, hM, rfl⟩)⟩
        · exfalso; omega
    · simp only [am_z0, am_z1, ne_eq] at c_8
      exfalso; omega
  · have hT : cl_T ρ h L S K 0 0 ρ h := ⟨A, L, hI, fun _ _ _ => rfl, Or.inl ⟨rfl, rfl, rfl⟩⟩
    refine am_aload_n (pc' := 1) dX7_after_0 rfl rfl rfl ?_
    refine am_getRk (ki := 1) (pc' := 4) (k := 1) (ci := 6) rfl dX7_after_1 rfl fl_X7_21 (by first | assumption | exact ⟨by omega, by omega, rfl⟩) rfl (by assumption) (by omega) ?_
    refine am_iload_n (pc' := 5) dX7_after_4 rfl rfl rfl ?_
    refine am_callVp (pc' := 8) (as := [_]) (ci := 3)  rfl dX7_after_5 rfl ok_X3_has ml_X7_98 im_X3_has se_X3_has rfl (Nat.le_of_ble_eq_true rfl) rfl (Nat.le_of_ble_eq_true rfl) (by first | assumption | exact ⟨by omega, by omega, rfl⟩) (t_has hR) ?_
    refine am_if_ne (pc' := 11) (tgt := 13) dX7_after_8 rfl rfl (fun c_8 => ?_) (fun c_8 => ?_)
    · simp only [am_z0, am_z1, ne_eq] at c_8
      refine am_lload_n (pc' := 14) dX7_after_13 rfl rfl rfl ?_
      refine am_lconst0 (pc' := 15) dX7_after_14 rfl ?_
      refine am_lcmp_lt (pc1 := 16) (pc' := 19) (tgt := 27) dX7_after_15 rfl dX7_after_16 rfl rfl (fun c_15 => ?_) (fun c_15 => ?_)
      · refine am_bipush (pc' := 29) dX7_after_27 rfl rfl (by decide) ?_
        refine am_reti dX7_after_29 rfl ?_
        exact ⟨hT, _, rfl, Or.inr (Or.inl ⟨by omega, by omega, rfl⟩)⟩
      · refine am_lload_n (pc' := 20) dX7_after_19 rfl rfl rfl ?_
        refine am_ldc2 (pc' := 23) (x := 1000000000000000000) dX7_after_20 rfl kl_X7_126 rfl rfl ?_
        refine am_lcmp_le (pc1 := 24) (pc' := 27) (tgt := 30) dX7_after_23 rfl dX7_after_24 rfl rfl (fun c_23 => ?_) (fun c_23 => ?_)
        · exfalso; exact hg ⟨by omega, by omega⟩
        · refine am_bipush (pc' := 29) dX7_after_27 rfl rfl (by decide) ?_
          refine am_reti dX7_after_29 rfl ?_
          exact ⟨hT, _, rfl, Or.inr (Or.inl ⟨by omega, by omega, rfl⟩)⟩
    · simp only [am_z0, am_z1, ne_eq] at c_8
      refine am_iconst (pc' := 12) dX7_after_11 rfl rfl ?_
      refine am_reti dX7_after_12 rfl ?_
      exact ⟨hT, _, rfl, Or.inl ⟨by omega, rfl⟩⟩
/-- how the rows of Spread grew -/
def gr_S (K K' N : Int) (mc ms : Nat) : Prop := (K' = K ∧ mc = 0 ∧ ms = 0) ∨ (K < K' ∧ K' = N ∧ mc = 3 ∧ ms = 0 + N.toNat + N.toNat + N.toNat)
def cl_b2 (g : Prop) (h : am_H) (L K N t : Int) (mc ms mc1 ms1 mc2 ms2 : Nat) : Prop := (g ∧ wo_b h L N mc1 ms1 ∧ sp_b h K N t mc2 ms2 ∧ mc = mc1 + mc2 ∧ ms = ms1 + ms2) ∨ (¬ g ∧ mc = 0 ∧ ms = 0 ∧ mc1 = 0 ∧ ms1 = 0 ∧ mc2 = 0 ∧ ms2 = 0)
def cl_T2 (ρ h : am_H) (L K : Int) (mc1 ms1 mc2 ms2 : Nat) (ρ' h' : am_H) : Prop := ∃ A' L' S' K', cl_I ρ' h' A' L' S' K' ∧ (∀ x j, (1 ≤ x ∧ x ≤ 13) ∨ (33 ≤ x ∧ x ≤ 36) ∨ (38 ≤ x ∧ x ≤ 57) → h' x j = h x j) ∧ gr_A L L' (mt_pw (h 11 0) (h 11 1).toNat) mc1 ms1 ∧ gr_S K K' (mt_pw (h 11 0) (h 11 1).toNat) mc2 ms2
def o_cnt (nx : Int → Int) (N P B p t v : Int) : Int := mt_sum (fun r => if dg P B (gi nx t.toNat r) p = v then 1 else 0) N.toNat
def o_odds (nx : Int → Int) (N P B p t v w : Int) : Int := (if w = 0 then o_cnt nx N P B p t v else N) / (Nat.gcd (o_cnt nx N P B p t v).toNat N.toNat : Nat)
theorem o_cnt_in (nx : Int → Int) {N : Int} (P B p t v : Int) (hN : 0 ≤ N) : 0 ≤ o_cnt nx N P B p t v ∧ o_cnt nx N P B p t v ≤ N := by
  have := mt_sum_nn (f := fun r => if dg P B (gi nx t.toNat r) p = v then 1 else 0) (M := 1) (n := N.toNat) (fun p _ _ => by split <;> omega)
  unfold o_cnt
  omega
theorem t_odds {ρ h : am_H} {A L S K p t v w : Int} {mc ms mc1 ms1 mc2 ms2 : Nat} (hI : cl_I ρ h A L S K) (hb : cl_b2 ((0 ≤ p ∧ p < h 11 1) ∧ ((0 ≤ t ∧ t ≤ 99) ∧ 0 ≤ v ∧ v ≤ 5) ∧ 0 ≤ w ∧ w ≤ 1) h L K (mt_pw (h 11 0) (h 11 1).toNat) t mc ms mc1 ms1 mc2 ms2) :
    am_CT mX7_odds mc ms [am_R 1, am_I p, am_I t, am_I v, am_I w] ρ h (fun r ρ' h' => cl_T2 ρ h L K mc1 ms1 mc2 ms2 ρ' h' ∧ ((¬ ((0 ≤ p ∧ p < h 11 1) ∧ ((0 ≤ t ∧ t ≤ 99) ∧ 0 ≤ v ∧ v ≤ 5) ∧ 0 ≤ w ∧ w ≤ 1) ∧ r = some (am_L (-9223372036854775808))) ∨ (((0 ≤ p ∧ p < h 11 1) ∧ ((0 ≤ t ∧ t ≤ 99) ∧ 0 ≤ v ∧ v ≤ 5) ∧ 0 ≤ w ∧ w ≤ 1) ∧ r = some (am_L (o_odds (o_nx h) (o_N h) (h 11 1) (h 11 0) p t v w))))) := by
  have hC := hI.2.1.1
  have hn58 := hC.1
  have hR := am_RA11 hC
  have e1 := am_lc hC 1 1 11 (by decide)
  have e2 := am_lc hC 1 3 19 (by decide)
  have k0 : am_in ρ 19 0 := ⟨by omega, by omega, rfl⟩
  refine am_ct (ls := [some (am_R 1), some (am_I p), some (am_I t), some (am_I v), some (am_I w), none, none]) ok_X7_odds rfl (fun _ => Nat.le_of_ble_eq_true rfl) (fun _ => rfl) (by intro v hv; simpa using hv) ?_
  rcases hb with ⟨hg, hb, hs, rfl, rfl⟩ | ⟨hg, rfl, rfl, rfl, rfl, rfl, rfl⟩
  · have hP0 : h 11 1 ≠ 0 := by omega
    have hO := (cl_RO hI.1.1 hP0).1
    have hrow := o_row_in hO
    refine am_aload_n (pc' := 1) dX7_odds_0 rfl rfl rfl ?_
    refine am_getRk (ki := 1) (pc' := 4) (k := 1) (ci := 6) rfl dX7_odds_1 rfl fl_X7_21 (by first | assumption | exact ⟨by omega, by omega, rfl⟩) rfl (by assumption) (by omega) ?_
    refine am_iload_n (pc' := 5) dX7_odds_4 rfl rfl rfl ?_
    refine am_callVp (pc' := 8) (as := [_]) (ci := 3)  rfl dX7_odds_5 rfl ok_X3_has ml_X7_98 im_X3_has se_X3_has rfl (Nat.le_of_ble_eq_true rfl) rfl (Nat.le_of_ble_eq_true rfl) (by first | assumption | exact ⟨by omega, by omega, rfl⟩) (t_has hR) ?_
    refine am_if_eq (pc' := 11) (tgt := 30) dX7_odds_8 rfl rfl (fun c_8 => ?_) (fun c_8 => ?_)
    · simp only [am_z0, am_z1, ne_eq] at c_8
      exfalso; omega
    · simp only [am_z0, am_z1, ne_eq] at c_8
      refine am_iload_n (pc' := 12) dX7_odds_11 rfl rfl rfl ?_
      refine am_iload_n (pc' := 13) dX7_odds_12 rfl rfl rfl ?_
      refine am_callSp (pc' := 16) (as := [_, _])  rfl dX7_odds_13 rfl ok_X7_isReadable ml_X7_224 sm_X7_isReadable (Nat.le_of_ble_eq_true rfl) rfl (Nat.le_of_ble_eq_true rfl) (t_isReadable) ?_
      refine am_if_eq (pc' := 19) (tgt := 30) dX7_odds_16 rfl rfl (fun c_16 => ?_) (fun c_16 => ?_)
      · simp only [am_z0, am_z1, ne_eq] at c_16
        exfalso; omega
      · simp only [am_z0, am_z1, ne_eq] at c_16
        refine am_iload (pc' := 21) dX7_odds_19 rfl rfl ?_
        refine am_if_lt (pc' := 24) (tgt := 30) dX7_odds_21 rfl rfl (fun c_21 => ?_) (fun c_21 => ?_)
        · exfalso; omega
        · refine am_iload (pc' := 26) dX7_odds_24 rfl rfl ?_
          refine am_iconst (pc' := 27) dX7_odds_26 rfl rfl ?_
          refine am_icmp_le (pc' := 30) (tgt := 34) dX7_odds_27 rfl rfl (fun c_27 => ?_) (fun c_27 => ?_)
          · refine am_aload_n (pc' := 35) dX7_odds_34 rfl rfl rfl ?_
            refine am_getRk (ki := 3) (pc' := 38) (k := 3) (ci := 6) rfl dX7_odds_35 rfl fl_X7_31 (by first | assumption | exact ⟨by omega, by omega, rfl⟩) rfl (by assumption) (by omega) ?_
            refine am_aload_n (pc' := 39) dX7_odds_38 rfl rfl rfl ?_
            refine am_getRk (ki := 1) (pc' := 42) (k := 1) (ci := 6) rfl dX7_odds_39 rfl fl_X7_21 (by first | assumption | exact ⟨by omega, by omega, rfl⟩) rfl (by assumption) (by omega) ?_
            refine am_callVg (pc' := 45) (as := [_]) (ci := 0) (mc := mc1) (bc := mc2) (ms := ms1) (bs := ms2) rfl dX7_odds_42 rfl ok_X0_workOut ml_X7_128 im_X0_workOut se_X0_workOut rfl (Nat.le_of_ble_eq_true rfl) rfl (Nat.le_of_ble_eq_true rfl) (by first | assumption | exact ⟨by omega, by omega, rfl⟩) (t_wo hI hP0 hb) (fun r_42 ρ_42 h_42 q_42 g_42 e_42 => ?_)
            obtain ⟨rfl, A', L', q1, q2, q3, q4, q5⟩ := q_42
            have hC2 := q2.1
            have n2 := hC2.1
            have x1 := am_lc hC2 1 1 11 (by decide)
            have x2 := am_lc hC2 1 3 19 (by decide)
            have hN := ar_QN q2
            have hT : ∀ x j, (1 ≤ x ∧ x ≤ 13) ∨ (33 ≤ x ∧ x ≤ 36) ∨ (38 ≤ x ∧ x ≤ 57) → h_42 x j = h x j := fun x j z => q3 x j (by omega)
            have hD := q2.2.1
            have u0 : ∀ k, h_42 11 k = h 11 k := fun k => q3 11 k (by omega)
            have hO2 : am_RO h_42 11 := (cl_RO q1.1.1 (by rw [u0]; exact hP0)).1
            have er : mt_cd (h_42 11 0) (h_42 (11 + 2)) (h_42 11 1).toNat = o_row h := by
              rw [u0, u0, show h_42 (11 + 2) = h 13 from funext fun k => q3 13 k (by omega)]; rfl
            have hr2 : 0 ≤ o_row h ∧ o_row h < h_42 19 7 := by rw [q4]; exact hrow
            have x4 := am_lc hC2 1 4 29 (by decide)
            have s29 : am_in ρ_42 29 5 := ⟨by omega, by omega, rfl⟩
            have sI : sp_I h_42 S K (h_42 19 7) (nxt (h 11 1) (h 11 0) (h 12)) := by
              have z := q1.2.2.2
              rw [u0, u0, show h_42 12 = h 12 from funext fun k => q3 12 k (by omega)] at z
              rw [q4]; exact z
            have sb : sp_b h_42 K (h_42 19 7) t mc2 ms2 := by
              unfold sp_b at hs ⊢
              rw [q4, q3 29 4 (by omega)]; exact hs
            refine am_aload_n (pc' := 46) dX7_odds_45 rfl rfl rfl ?_
            refine am_getRk (ki := 4) (pc' := 49) (k := 4) (ci := 6) rfl dX7_odds_46 rfl fl_X7_38 (by first | assumption | exact ⟨by omega, by omega, rfl⟩) rfl (by assumption) (by omega) ?_
            refine am_aload_n (pc' := 50) dX7_odds_49 rfl rfl rfl ?_
            refine am_getRk (ki := 3) (pc' := 53) (k := 3) (ci := 6) rfl dX7_odds_50 rfl fl_X7_31 (by first | assumption | exact ⟨by omega, by omega, rfl⟩) rfl (by assumption) (by omega) ?_
            refine am_iload_n (pc' := 54) dX7_odds_53 rfl rfl rfl ?_
            refine am_callVg (pc' := 57) (as := [_, _]) (ci := 5) (mc := mc2) (bc := 0) (ms := ms2) (bs := 0) rfl dX7_odds_54 rfl ok_X5_goTo ml_X7_240 im_X5_goTo se_X5_goTo rfl (Nat.le_of_ble_eq_true rfl) rfl (Nat.le_of_ble_eq_true rfl) (by first | assumption | exact ⟨by omega, by omega, rfl⟩) (t_goTo q1.2.1 q2 sI ⟨by omega, by omega⟩ sb) (fun r_54 ρ_54 h_54 q_54 g_54 e_54 => ?_)
            obtain ⟨rfl, S', K', w1, w2, w3, w4, w5, w6, w7⟩ := q_54
            have hC3 := w1.1
            have n3 := hC3.1
            have y1 := am_lc hC3 1 1 11 (by decide)
            have y2 := am_lc hC3 1 3 19 (by decide)
            have y4 := am_lc hC3 1 4 29 (by decide)
            have t29 : am_in ρ_54 29 5 := ⟨by omega, by omega, rfl⟩
            have hdd := q1.2.1.2.2.2.2
            have hAA := q2.2.1.2.2.1
            have hSS := q1.2.1.2.2.2.1.2.1
            have hA2 := q2.2.1.2.1
            have g19 : ∀ k, h_54 19 k = h_42 19 k := fun k => w2 19 k (by omega) (by omega) (by omega)
            have g20 : ∀ k, h_54 20 k = h_42 20 k := fun k => w2 20 k (by omega) (by omega) (by omega)
            have hQ3 : ar_Q ρ_54 h_54 A' L' (h 11 1) (h 11 0) (h 12) := ⟨hC3, w1.2.2.1, ar_C_fr g19 g20 (fun x k z0 z1 => w2 x k (by omega) (by omega) (by omega)) q2.2.2.1, q2.2.2.2⟩
            have vis : ∀ x j, (1 ≤ x ∧ x ≤ 13) ∨ (33 ≤ x ∧ x ≤ 36) ∨ (38 ≤ x ∧ x ≤ 57) → h_54 x j = h x j := fun x j z => by rw [w2 x j (by omega) (by omega) (by omega), q3 x j (by omega)]
            have v11 : ∀ k, h_54 11 k = h 11 k := fun k => vis 11 k (by omega)
            have v12 : h_54 12 = h 12 := funext fun k => vis 12 k (by omega)
            have eN : h_54 19 7 = o_N h := (g19 7).trans q4
            have hI3 : cl_I ρ_54 h_54 A' L' S' K' := ⟨cl_G_fr (fun x j z => vis x j (by omega)) hI.1, w1, Or.inr (by rw [v11, v11, v12]; exact hQ3.2.2.1), by
              rw [v11, v11, v12]
              refine ⟨w4, Or.inr ⟨by omega, ?_, ?_⟩⟩
              · rw [← q4]; exact w3
              · rw [w6, ← q4]; exact w5⟩
            have hT2 : cl_T2 ρ h L K mc1 ms1 mc2 ms2 ρ_54 h_54 := by
              refine ⟨A', L', S', K', hI3, vis, q5, ?_⟩
              rcases w7 with ⟨z1, z2, z3, z4⟩ | ⟨z1, z2, z3, z4⟩
              · exact Or.inl ⟨z2, z3, z4⟩
              · exact Or.inr ⟨z1, z2.trans q4, z3, by rw [← q4, ← z2]; exact z4⟩
            have w5b : sp_V h_54 S' (h_54 19 7) (h_54 29 3) (nxt (h 11 1) (h 11 0) (h 12)) t.toNat := by rw [g19]; exact w5
            have hN7 : 0 < o_N h ∧ o_N h ≤ 7776 := by
              rw [← eN, g19]; exact ⟨hN.1, hN.2.1⟩
            have hcb := o_cnt_in (o_nx h) (N := o_N h) (h 11 1) (h 11 0) p t v (by omega)
            refine am_aload_n (pc' := 58) dX7_odds_57 rfl rfl rfl ?_
            refine am_getRk (ki := 4) (pc' := 61) (k := 4) (ci := 6) rfl dX7_odds_58 rfl fl_X7_38 (by first | assumption | exact ⟨by omega, by omega, rfl⟩) rfl (by assumption) (by omega) ?_
            refine am_aload_n (pc' := 62) dX7_odds_61 rfl rfl rfl ?_
            refine am_getRk (ki := 3) (pc' := 65) (k := 3) (ci := 6) rfl dX7_odds_62 rfl fl_X7_31 (by first | assumption | exact ⟨by omega, by omega, rfl⟩) rfl (by assumption) (by omega) ?_
            refine am_iload_n (pc' := 66) dX7_odds_65 rfl rfl rfl ?_
            refine am_iload_n (pc' := 67) dX7_odds_66 rfl rfl rfl ?_
            refine am_callVp (pc' := 70) (as := [_, _, _]) (ci := 5)  rfl dX7_odds_67 rfl ok_X5_howMany ml_X7_244 im_X5_howMany se_X5_howMany rfl (Nat.le_of_ble_eq_true rfl) rfl (Nat.le_of_ble_eq_true rfl) (by first | assumption | exact ⟨by omega, by omega, rfl⟩) (t_howMany (v := v) hQ3 w1.2.2.2.1 (by rw [g19]; exact w3) hg.1 w5b) ?_
            rw [eN]
            change am_WP _ _ _ _ _ [am_I (o_cnt (o_nx h) (o_N h) (h 11 1) (h 11 0) p t v)] _ _ _
            refine am_istore (pc' := 72) (ls' := [_, _, _, _, _, _, _]) dX7_odds_70 rfl (Nat.le_of_ble_eq_true rfl) rfl rfl ?_
            refine am_iload (pc' := 74) dX7_odds_72 rfl rfl ?_
            refine am_aload_n (pc' := 75) dX7_odds_74 rfl rfl rfl ?_
            refine am_getRk (ki := 3) (pc' := 78) (k := 3) (ci := 6) rfl dX7_odds_75 rfl fl_X7_31 (by first | assumption | exact ⟨by omega, by omega, rfl⟩) rfl (by assumption) (by omega) ?_
            refine am_getIk (ki := 7) (pc' := 81) (k := 7) (ci := 0) rfl dX7_odds_78 rfl fl_X7_190 (by first | assumption | exact ⟨by omega, by omega, rfl⟩) rfl ?_
            rw [eN]
            refine am_callSp (pc' := 84) (as := [_, _])  rfl dX7_odds_81 rfl ok_X7_commonDivisor ml_X7_248 sm_X7_commonDivisor (Nat.le_of_ble_eq_true rfl) rfl (Nat.le_of_ble_eq_true rfl) (t_commonDivisor (by omega) (by omega)) ?_
            have hgp : 0 < Nat.gcd (o_cnt (o_nx h) (o_N h) (h 11 1) (h 11 0) p t v).toNat (o_N h).toNat := Nat.gcd_pos_of_pos_right _ (by omega)
            refine am_istore (pc' := 86) (ls' := [_, _, _, _, _, _, _]) dX7_odds_84 rfl (Nat.le_of_ble_eq_true rfl) rfl rfl ?_
            refine am_iload (pc' := 88) dX7_odds_86 rfl rfl ?_
            refine am_iconst (pc' := 89) dX7_odds_88 rfl rfl ?_
            refine am_icmp_ge (pc' := 92) (tgt := 96) dX7_odds_89 rfl rfl (fun c_89 => ?_) (fun c_89 => ?_)
            · refine am_iload (pc' := 98) dX7_odds_96 rfl rfl ?_
              refine am_if_ne (pc' := 101) (tgt := 106) dX7_odds_98 rfl rfl (fun c_98 => ?_) (fun c_98 => ?_)
              · refine am_aload_n (pc' := 107) dX7_odds_106 rfl rfl rfl ?_
                refine am_getRk (ki := 3) (pc' := 110) (k := 3) (ci := 6) rfl dX7_odds_107 rfl fl_X7_31 (by first | assumption | exact ⟨by omega, by omega, rfl⟩) rfl (by assumption) (by omega) ?_
                refine am_getIk (ki := 7) (pc' := 113) (k := 7) (ci := 0) rfl dX7_odds_110 rfl fl_X7_190 (by first | assumption | exact ⟨by omega, by omega, rfl⟩) rfl ?_
                refine am_iload (pc' := 115) dX7_odds_113 rfl rfl ?_
                refine am_idiv (pc' := 116) dX7_odds_115 rfl (by omega) (by omega) ?_
                refine am_i2l (pc' := 117) dX7_odds_116 rfl ?_
                refine am_retl dX7_odds_117 rfl ?_
                first | exact ⟨hT2, Or.inr ⟨hg, by unfold o_odds; rw [if_pos (by omega)]⟩⟩ | exact ⟨hT2, Or.inr ⟨hg, by unfold o_odds; rw [if_neg (by omega), eN]⟩⟩ | fail
              · refine am_iload (pc' := 103) dX7_odds_101 rfl rfl ?_
                refine am_goto (pc' := 113) dX7_odds_103 rfl ?_
                refine am_iload (pc' := 115) dX7_odds_113 rfl rfl ?_
                refine am_idiv (pc' := 116) dX7_odds_115 rfl (by omega) (by omega) ?_
                refine am_i2l (pc' := 117) dX7_odds_116 rfl ?_
                refine am_retl dX7_odds_117 rfl ?_
                first | exact ⟨hT2, Or.inr ⟨hg, by unfold o_odds; rw [if_pos (by omega)]⟩⟩ | exact ⟨hT2, Or.inr ⟨hg, by unfold o_odds; rw [if_neg (by omega), eN]⟩⟩ | fail
            · exfalso; omega
          · exfalso; omega
  · have hT : cl_T2 ρ h L K 0 0 0 0 ρ h := ⟨A, L, S, K, hI, fun _ _ _ => rfl, Or.inl ⟨rfl, rfl, rfl⟩, Or.inl ⟨rfl, rfl, rfl⟩⟩
    refine am_aload_n (pc' := 1) dX7_odds_0 rfl rfl rfl ?_
    refine am_getRk (ki := 1) (pc' := 4) (k := 1) (ci := 6) rfl dX7_odds_1 rfl fl_X7_21 (by first | assumption | exact ⟨by omega, by omega, rfl⟩) rfl (by assumption) (by omega) ?_
    refine am_iload_n (pc' := 5) dX7_odds_4 rfl rfl rfl ?_
    refine am_callVp (pc' := 8) (as := [_]) (ci := 3)  rfl dX7_odds_5 rfl ok_X3_has ml_X7_98 im_X3_has se_X3_has rfl (Nat.le_of_ble_eq_true rfl) rfl (Nat.le_of_ble_eq_true rfl) (by first | assumption | exact ⟨by omega, by omega, rfl⟩) (t_has hR) ?_
    refine am_if_eq (pc' := 11) (tgt := 30) dX7_odds_8 rfl rfl (fun c_8 => ?_) (fun c_8 => ?_)
    · simp only [am_z0, am_z1, ne_eq] at c_8
      refine am_ldc2 (pc' := 33) (x := -9223372036854775808) dX7_odds_30 rfl kl_X7_238 rfl rfl ?_
      refine am_retl dX7_odds_33 rfl ?_
      exact ⟨hT, Or.inl ⟨hg, rfl⟩⟩
    · simp only [am_z0, am_z1, ne_eq] at c_8
      refine am_iload_n (pc' := 12) dX7_odds_11 rfl rfl rfl ?_
      refine am_iload_n (pc' := 13) dX7_odds_12 rfl rfl rfl ?_
      refine am_callSp (pc' := 16) (as := [_, _])  rfl dX7_odds_13 rfl ok_X7_isReadable ml_X7_224 sm_X7_isReadable (Nat.le_of_ble_eq_true rfl) rfl (Nat.le_of_ble_eq_true rfl) (t_isReadable) ?_
      refine am_if_eq (pc' := 19) (tgt := 30) dX7_odds_16 rfl rfl (fun c_16 => ?_) (fun c_16 => ?_)
      · simp only [am_z0, am_z1, ne_eq] at c_16
        refine am_ldc2 (pc' := 33) (x := -9223372036854775808) dX7_odds_30 rfl kl_X7_238 rfl rfl ?_
        refine am_retl dX7_odds_33 rfl ?_
        exact ⟨hT, Or.inl ⟨hg, rfl⟩⟩
      · simp only [am_z0, am_z1, ne_eq] at c_16
        refine am_iload (pc' := 21) dX7_odds_19 rfl rfl ?_
        refine am_if_lt (pc' := 24) (tgt := 30) dX7_odds_21 rfl rfl (fun c_21 => ?_) (fun c_21 => ?_)
        · refine am_ldc2 (pc' := 33) (x := -9223372036854775808) dX7_odds_30 rfl kl_X7_238 rfl rfl ?_
          refine am_retl dX7_odds_33 rfl ?_
          exact ⟨hT, Or.inl ⟨hg, rfl⟩⟩
        · refine am_iload (pc' := 26) dX7_odds_24 rfl rfl ?_
          refine am_iconst (pc' := 27) dX7_odds_26 rfl rfl ?_
          refine am_icmp_le (pc' := 30) (tgt := 34) dX7_odds_27 rfl rfl (fun c_27 => ?_) (fun c_27 => ?_)
          · exfalso; exact hg ⟨by omega, by omega, by omega⟩
          · refine am_ldc2 (pc' := 33) (x := -9223372036854775808) dX7_odds_30 rfl kl_X7_238 rfl rfl ?_
            refine am_retl dX7_odds_33 rfl ?_
            exact ⟨hT, Or.inl ⟨hg, rfl⟩⟩
