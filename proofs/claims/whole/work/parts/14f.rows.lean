/-! DifferRings: from, rows, longest, few -/
def o_from (nx : Int → Int) (N P B c k v : Int) : Prop := (k < 0 ∧ v = mt_sum (fun d => if nx d = c then 1 else 0) N.toNat) ∨ (0 ≤ k ∧ ∃ f, gr_fc nx N c f ∧ v = if f = -9 ∨ ¬ k < P then -9 else dg P B f k)
theorem t_from {ρ h : am_H} {A L S K k : Int} {mc ms : Nat} (hI : cl_I ρ h A L S K) (hb : cl_b ((-1 ≤ k ∧ k < 5) ∧ h 11 1 ≠ 0) h L (mt_pw (h 11 0) (h 11 1).toNat) mc ms) :
    am_CT mX7_from mc ms [am_R 1, am_I k] ρ h (fun r ρ' h' => cl_T ρ h L S K mc ms ρ' h' ∧ ∃ v, r = some (am_I v) ∧ o_g3 (-1 ≤ k ∧ k < 5) (h 11 1) (o_from (o_nx h) (o_N h) (h 11 1) (h 11 0) (o_row h) k) v) := by
  have hC := hI.2.1.1
  have hn58 := hC.1
  have hR := am_RA11 hC
  have e1 := am_lc hC 1 1 11 (by decide)
  have e2 := am_lc hC 1 3 19 (by decide)
  have k0 : am_in ρ 19 0 := ⟨by omega, by omega, rfl⟩
  refine am_ct (ls := [some (am_R 1), some (am_I k), none]) ok_X7_from rfl (fun _ => Nat.le_of_ble_eq_true rfl) (fun _ => rfl) (by intro v hv; simpa using hv) ?_
  rcases hb with ⟨hg, hb⟩ | ⟨hg, rfl, rfl⟩
  · have hP0 := hg.2
    have hO := (cl_RO hI.1.1 hg.2).1
    have hrow := o_row_in hO
    refine am_iload_n (pc' := 1) dX7_from_0 rfl rfl rfl ?_
    refine am_iconst (pc' := 2) dX7_from_1 rfl rfl ?_
    refine am_icmp_lt (pc' := 5) (tgt := 10) dX7_from_2 rfl rfl (fun c_2 => ?_) (fun c_2 => ?_)
    · exfalso; omega
    · refine am_iload_n (pc' := 6) dX7_from_5 rfl rfl rfl ?_
      refine am_iconst (pc' := 7) dX7_from_6 rfl rfl ?_
      refine am_icmp_lt (pc' := 10) (tgt := 13) dX7_from_7 rfl rfl (fun c_7 => ?_) (fun c_7 => ?_)
      · refine am_aload_n (pc' := 14) dX7_from_13 rfl rfl rfl ?_
        refine am_getRk (ki := 1) (pc' := 17) (k := 1) (ci := 6) rfl dX7_from_14 rfl fl_X7_21 (by first | assumption | exact ⟨by omega, by omega, rfl⟩) rfl (by assumption) (by omega) ?_
        refine am_callVp (pc' := 20) (as := []) (ci := 3)  rfl dX7_from_17 rfl ok_X3_isNone ml_X7_115 im_X3_isNone se_X3_isNone rfl (Nat.le_of_ble_eq_true rfl) rfl (Nat.le_of_ble_eq_true rfl) (by first | assumption | exact ⟨by omega, by omega, rfl⟩) (t_isNone hR) ?_
        refine am_if_eq (pc' := 23) (tgt := 26) dX7_from_20 rfl rfl (fun c_20 => ?_) (fun c_20 => ?_)
        · simp only [am_z0, am_z1, ne_eq] at c_20
          refine am_aload_n (pc' := 27) dX7_from_26 rfl rfl rfl ?_
          refine am_getRk (ki := 3) (pc' := 30) (k := 3) (ci := 6) rfl dX7_from_27 rfl fl_X7_31 (by first | assumption | exact ⟨by omega, by omega, rfl⟩) rfl (by assumption) (by omega) ?_
          refine am_aload_n (pc' := 31) dX7_from_30 rfl rfl rfl ?_
          refine am_getRk (ki := 1) (pc' := 34) (k := 1) (ci := 6) rfl dX7_from_31 rfl fl_X7_21 (by first | assumption | exact ⟨by omega, by omega, rfl⟩) rfl (by assumption) (by omega) ?_
          refine am_callVg (pc' := 37) (as := [_]) (ci := 0) (mc := mc) (bc := 0) (ms := ms) (bs := 0) rfl dX7_from_34 rfl ok_X0_workOut ml_X7_128 im_X0_workOut se_X0_workOut rfl (Nat.le_of_ble_eq_true rfl) rfl (Nat.le_of_ble_eq_true rfl) (by first | assumption | exact ⟨by omega, by omega, rfl⟩) (t_wo hI hg.2 hb) (fun r_34 ρ_34 h_34 q_34 g_34 e_34 => ?_)
          obtain ⟨rfl, A', L', q1, q2, q3, q4, q5⟩ := q_34
          have hC2 := q2.1
          have n2 := hC2.1
          have x1 := am_lc hC2 1 1 11 (by decide)
          have x2 := am_lc hC2 1 3 19 (by decide)
          have hN := ar_QN q2
          have hT : cl_T ρ h L S K mc ms ρ_34 h_34 := ⟨A', L', q1, fun x j z => q3 x j (by omega), q5⟩
          have hD := q2.2.1
          have u0 : ∀ k, h_34 11 k = h 11 k := fun k => q3 11 k (by omega)
          have hO2 : am_RO h_34 11 := (cl_RO q1.1.1 (by rw [u0]; exact hP0)).1
          have er : mt_cd (h_34 11 0) (h_34 (11 + 2)) (h_34 11 1).toNat = o_row h := by
            rw [u0, u0, show h_34 (11 + 2) = h 13 from funext fun k => q3 13 k (by omega)]; rfl
          have hr2 : 0 ≤ o_row h ∧ o_row h < h_34 19 7 := by rw [q4]; exact hrow
          refine am_iload_n (pc' := 38) dX7_from_37 rfl rfl rfl ?_
          refine am_if_ge (pc' := 41) (tgt := 56) dX7_from_38 rfl rfl (fun c_38 => ?_) (fun c_38 => ?_)
          · refine am_aload_n (pc' := 57) dX7_from_56 rfl rfl rfl ?_
            refine am_getRk (ki := 3) (pc' := 60) (k := 3) (ci := 6) rfl dX7_from_57 rfl fl_X7_31 (by first | assumption | exact ⟨by omega, by omega, rfl⟩) rfl (by assumption) (by omega) ?_
            refine am_aload_n (pc' := 61) dX7_from_60 rfl rfl rfl ?_
            refine am_getRk (ki := 1) (pc' := 64) (k := 1) (ci := 6) rfl dX7_from_61 rfl fl_X7_21 (by first | assumption | exact ⟨by omega, by omega, rfl⟩) rfl (by assumption) (by omega) ?_
            refine am_callVp (pc' := 67) (as := []) (ci := 3)  rfl dX7_from_64 rfl ok_X3_code ml_X7_132 im_X3_code se_X3_code rfl (Nat.le_of_ble_eq_true rfl) rfl (Nat.le_of_ble_eq_true rfl) (by first | assumption | exact ⟨by omega, by omega, rfl⟩) (t_code (am_RA11 hC2) hO2) ?_
            rw [er]
            refine am_callV0 (pc' := 70) (as := [_]) (ci := 0)  rfl dX7_from_67 rfl ok_X0_firstComerOf ml_X7_187 im_X0_firstComerOf se_X0_firstComerOf rfl (Nat.le_of_ble_eq_true rfl) rfl (Nat.le_of_ble_eq_true rfl) (by first | assumption | exact ⟨by omega, by omega, rfl⟩) (t_firstComerOf q2) (fun r_67 ρ_67 h_67 q_67 g_67 e_67 => ?_)
            obtain ⟨rfl, rfl, f, rfl, hfc⟩ := q_67
            rw [q4] at hfc
            have hfb : f ≠ -9 → 0 ≤ f ∧ f ≤ 100000 := fun z => by
              rcases hfc with ⟨y1, y2, _⟩ | ⟨y1, _⟩
              · omega
              · exact absurd y1 z
            refine am_istore_n (pc' := 71) (ls' := [_, _, _]) dX7_from_70 rfl rfl (Nat.le_of_ble_eq_true rfl) rfl rfl ?_
            refine am_iload_n (pc' := 72) dX7_from_71 rfl rfl rfl ?_
            refine am_bipush (pc' := 74) dX7_from_72 rfl rfl (by decide) ?_
            refine am_icmp_eq (pc' := 77) (tgt := 88) dX7_from_74 rfl rfl (fun c_74 => ?_) (fun c_74 => ?_)
            · refine am_bipush (pc' := 90) dX7_from_88 rfl rfl (by decide) ?_
              refine am_goto (pc' := 102) dX7_from_90 rfl ?_
              refine am_reti dX7_from_102 rfl ?_
              first | exact ⟨hT, _, rfl, Or.inr (Or.inr ⟨hg.1, hg.2, Or.inr ⟨by omega, f, hfc, by rw [if_pos (Or.inl (by omega))]⟩⟩)⟩ | exact ⟨hT, _, rfl, Or.inr (Or.inr ⟨hg.1, hg.2, Or.inr ⟨by omega, f, hfc, by rw [if_pos (Or.inr (by rw [u0] at c_85; omega))]⟩⟩)⟩ | exact ⟨hT, _, rfl, Or.inr (Or.inr ⟨hg.1, hg.2, Or.inr ⟨by omega, f, hfc, by rw [if_neg (by rw [u0] at c_85; omega)]⟩⟩)⟩ | fail
            · refine am_aload_n (pc' := 78) dX7_from_77 rfl rfl rfl ?_
              refine am_getRk (ki := 1) (pc' := 81) (k := 1) (ci := 6) rfl dX7_from_78 rfl fl_X7_21 (by first | assumption | exact ⟨by omega, by omega, rfl⟩) rfl (by assumption) (by omega) ?_
              refine am_iload_n (pc' := 82) dX7_from_81 rfl rfl rfl ?_
              refine am_callVp (pc' := 85) (as := [_]) (ci := 3)  rfl dX7_from_82 rfl ok_X3_has ml_X7_98 im_X3_has se_X3_has rfl (Nat.le_of_ble_eq_true rfl) rfl (Nat.le_of_ble_eq_true rfl) (by first | assumption | exact ⟨by omega, by omega, rfl⟩) (t_has (am_RA11 hC2)) ?_
              refine am_if_ne (pc' := 88) (tgt := 93) dX7_from_85 rfl rfl (fun c_85 => ?_) (fun c_85 => ?_)
              · simp only [am_z0, am_z1, ne_eq] at c_85
                refine am_aload_n (pc' := 94) dX7_from_93 rfl rfl rfl ?_
                refine am_getRk (ki := 3) (pc' := 97) (k := 3) (ci := 6) rfl dX7_from_94 rfl fl_X7_31 (by first | assumption | exact ⟨by omega, by omega, rfl⟩) rfl (by assumption) (by omega) ?_
                refine am_iload_n (pc' := 98) dX7_from_97 rfl rfl rfl ?_
                refine am_iload_n (pc' := 99) dX7_from_98 rfl rfl rfl ?_
                refine am_callVp (pc' := 102) (as := [_, _]) (ci := 0)  rfl dX7_from_99 rfl ok_X0_numberIn ml_X7_139 im_X0_numberIn se_X0_numberIn rfl (Nat.le_of_ble_eq_true rfl) rfl (Nat.le_of_ble_eq_true rfl) (by first | assumption | exact ⟨by omega, by omega, rfl⟩) (t_numberIn q2 (hfb (by omega)) (by rw [u0] at c_85; omega)) ?_
                refine am_reti dX7_from_102 rfl ?_
                first | exact ⟨hT, _, rfl, Or.inr (Or.inr ⟨hg.1, hg.2, Or.inr ⟨by omega, f, hfc, by rw [if_pos (Or.inl (by omega))]⟩⟩)⟩ | exact ⟨hT, _, rfl, Or.inr (Or.inr ⟨hg.1, hg.2, Or.inr ⟨by omega, f, hfc, by rw [if_pos (Or.inr (by rw [u0] at c_85; omega))]⟩⟩)⟩ | exact ⟨hT, _, rfl, Or.inr (Or.inr ⟨hg.1, hg.2, Or.inr ⟨by omega, f, hfc, by rw [if_neg (by rw [u0] at c_85; omega)]⟩⟩)⟩ | fail
              · simp only [am_z0, am_z1, ne_eq] at c_85
                refine am_bipush (pc' := 90) dX7_from_88 rfl rfl (by decide) ?_
                refine am_goto (pc' := 102) dX7_from_90 rfl ?_
                refine am_reti dX7_from_102 rfl ?_
                first | exact ⟨hT, _, rfl, Or.inr (Or.inr ⟨hg.1, hg.2, Or.inr ⟨by omega, f, hfc, by rw [if_pos (Or.inl (by omega))]⟩⟩)⟩ | exact ⟨hT, _, rfl, Or.inr (Or.inr ⟨hg.1, hg.2, Or.inr ⟨by omega, f, hfc, by rw [if_pos (Or.inr (by rw [u0] at c_85; omega))]⟩⟩)⟩ | exact ⟨hT, _, rfl, Or.inr (Or.inr ⟨hg.1, hg.2, Or.inr ⟨by omega, f, hfc, by rw [if_neg (by rw [u0] at c_85; omega)]⟩⟩)⟩ | fail
          · refine am_aload_n (pc' := 42) dX7_from_41 rfl rfl rfl ?_
            refine am_getRk (ki := 3) (pc' := 45) (k := 3) (ci := 6) rfl dX7_from_42 rfl fl_X7_31 (by first | assumption | exact ⟨by omega, by omega, rfl⟩) rfl (by assumption) (by omega) ?_
            refine am_aload_n (pc' := 46) dX7_from_45 rfl rfl rfl ?_
            refine am_getRk (ki := 1) (pc' := 49) (k := 1) (ci := 6) rfl dX7_from_46 rfl fl_X7_21 (by first | assumption | exact ⟨by omega, by omega, rfl⟩) rfl (by assumption) (by omega) ?_
            refine am_callVp (pc' := 52) (as := []) (ci := 3)  rfl dX7_from_49 rfl ok_X3_code ml_X7_132 im_X3_code se_X3_code rfl (Nat.le_of_ble_eq_true rfl) rfl (Nat.le_of_ble_eq_true rfl) (by first | assumption | exact ⟨by omega, by omega, rfl⟩) (t_code (am_RA11 hC2) hO2) ?_
            rw [er]
            refine am_callVp (pc' := 55) (as := [_]) (ci := 0)  rfl dX7_from_52 rfl ok_X0_comersOf ml_X7_184 im_X0_comersOf se_X0_comersOf rfl (Nat.le_of_ble_eq_true rfl) rfl (Nat.le_of_ble_eq_true rfl) (by first | assumption | exact ⟨by omega, by omega, rfl⟩) (t_comersOf q2) ?_
            refine am_reti dX7_from_55 rfl ?_
            refine ⟨hT, _, rfl, Or.inr (Or.inr ⟨hg.1, hg.2, Or.inl ⟨by omega, ?_⟩⟩)⟩
            rw [q4]; rfl
        · simp only [am_z0, am_z1, ne_eq] at c_20
          exfalso; omega
      · exfalso; omega
  · have hT : cl_T ρ h L S K 0 0 ρ h := ⟨A, L, hI, fun _ _ _ => rfl, Or.inl ⟨rfl, rfl, rfl⟩⟩
    refine am_iload_n (pc' := 1) dX7_from_0 rfl rfl rfl ?_
    refine am_iconst (pc' := 2) dX7_from_1 rfl rfl ?_
    refine am_icmp_lt (pc' := 5) (tgt := 10) dX7_from_2 rfl rfl (fun c_2 => ?_) (fun c_2 => ?_)
    · refine am_bipush (pc' := 12) dX7_from_10 rfl rfl (by decide) ?_
      refine am_reti dX7_from_12 rfl ?_
      exact ⟨hT, _, rfl, Or.inl ⟨by omega, rfl⟩⟩
    · refine am_iload_n (pc' := 6) dX7_from_5 rfl rfl rfl ?_
      refine am_iconst (pc' := 7) dX7_from_6 rfl rfl ?_
      refine am_icmp_lt (pc' := 10) (tgt := 13) dX7_from_7 rfl rfl (fun c_7 => ?_) (fun c_7 => ?_)
      · refine am_aload_n (pc' := 14) dX7_from_13 rfl rfl rfl ?_
        refine am_getRk (ki := 1) (pc' := 17) (k := 1) (ci := 6) rfl dX7_from_14 rfl fl_X7_21 (by first | assumption | exact ⟨by omega, by omega, rfl⟩) rfl (by assumption) (by omega) ?_
        refine am_callVp (pc' := 20) (as := []) (ci := 3)  rfl dX7_from_17 rfl ok_X3_isNone ml_X7_115 im_X3_isNone se_X3_isNone rfl (Nat.le_of_ble_eq_true rfl) rfl (Nat.le_of_ble_eq_true rfl) (by first | assumption | exact ⟨by omega, by omega, rfl⟩) (t_isNone hR) ?_
        refine am_if_eq (pc' := 23) (tgt := 26) dX7_from_20 rfl rfl (fun c_20 => ?_) (fun c_20 => ?_)
        · simp only [am_z0, am_z1, ne_eq] at c_20
          exfalso; exact hg ⟨by omega, by omega⟩
        · simp only [am_z0, am_z1, ne_eq] at c_20
          refine am_bipush (pc' := 25) dX7_from_23 rfl rfl (by decide) ?_
          refine am_reti dX7_from_25 rfl ?_
          exact ⟨hT, _, rfl, Or.inr (Or.inl ⟨by omega, by omega, rfl⟩)⟩
      · refine am_bipush (pc' := 12) dX7_from_10 rfl rfl (by decide) ?_
        refine am_reti dX7_from_12 rfl ?_
        exact ⟨hT, _, rfl, Or.inl ⟨by omega, rfl⟩⟩
noncomputable def o_rows (nx : Int → Int) (N w v : Int) : Prop := v = if w = 0 then N else if w = 1 then gr_stay nx N.toNat else if w = 2 then mt_sum (fun c => if mt_sum (fun d => if nx d = c then 1 else 0) N.toNat = 0 then 1 else 0) N.toNat else if w = 3 then gr_outs nx N.toNat else gr_rounds nx N.toNat
theorem t_rows {ρ h : am_H} {A L S K w : Int} {mc ms : Nat} (hI : cl_I ρ h A L S K) (hb : cl_b ((0 ≤ w ∧ w ≤ 4) ∧ h 11 1 ≠ 0) h L (mt_pw (h 11 0) (h 11 1).toNat) mc ms) :
    am_CT mX7_rows mc ms [am_R 1, am_I w] ρ h (fun r ρ' h' => cl_T ρ h L S K mc ms ρ' h' ∧ ∃ v, r = some (am_I v) ∧ o_g3 (0 ≤ w ∧ w ≤ 4) (h 11 1) (o_rows (o_nx h) (o_N h) w) v) := by
  have hC := hI.2.1.1
  have hn58 := hC.1
  have hR := am_RA11 hC
  have e1 := am_lc hC 1 1 11 (by decide)
  have e2 := am_lc hC 1 3 19 (by decide)
  have k0 : am_in ρ 19 0 := ⟨by omega, by omega, rfl⟩
  refine am_ct (ls := [some (am_R 1), some (am_I w)]) ok_X7_rows rfl (fun _ => Nat.le_of_ble_eq_true rfl) (fun _ => rfl) (by intro v hv; simpa using hv) ?_
  rcases hb with ⟨hg, hb⟩ | ⟨hg, rfl, rfl⟩
  · have hP0 := hg.2
    have hO := (cl_RO hI.1.1 hg.2).1
    have hrow := o_row_in hO
    refine am_iload_n (pc' := 1) dX7_rows_0 rfl rfl rfl ?_
    refine am_if_lt (pc' := 4) (tgt := 9) dX7_rows_1 rfl rfl (fun c_1 => ?_) (fun c_1 => ?_)
    · exfalso; omega
    · refine am_iload_n (pc' := 5) dX7_rows_4 rfl rfl rfl ?_
      refine am_iconst (pc' := 6) dX7_rows_5 rfl rfl ?_
      refine am_icmp_le (pc' := 9) (tgt := 12) dX7_rows_6 rfl rfl (fun c_6 => ?_) (fun c_6 => ?_)
      · refine am_aload_n (pc' := 13) dX7_rows_12 rfl rfl rfl ?_
        refine am_getRk (ki := 1) (pc' := 16) (k := 1) (ci := 6) rfl dX7_rows_13 rfl fl_X7_21 (by first | assumption | exact ⟨by omega, by omega, rfl⟩) rfl (by assumption) (by omega) ?_
        refine am_callVp (pc' := 19) (as := []) (ci := 3)  rfl dX7_rows_16 rfl ok_X3_isNone ml_X7_115 im_X3_isNone se_X3_isNone rfl (Nat.le_of_ble_eq_true rfl) rfl (Nat.le_of_ble_eq_true rfl) (by first | assumption | exact ⟨by omega, by omega, rfl⟩) (t_isNone hR) ?_
        refine am_if_eq (pc' := 22) (tgt := 25) dX7_rows_19 rfl rfl (fun c_19 => ?_) (fun c_19 => ?_)
        · simp only [am_z0, am_z1, ne_eq] at c_19
          refine am_aload_n (pc' := 26) dX7_rows_25 rfl rfl rfl ?_
          refine am_getRk (ki := 3) (pc' := 29) (k := 3) (ci := 6) rfl dX7_rows_26 rfl fl_X7_31 (by first | assumption | exact ⟨by omega, by omega, rfl⟩) rfl (by assumption) (by omega) ?_
          refine am_aload_n (pc' := 30) dX7_rows_29 rfl rfl rfl ?_
          refine am_getRk (ki := 1) (pc' := 33) (k := 1) (ci := 6) rfl dX7_rows_30 rfl fl_X7_21 (by first | assumption | exact ⟨by omega, by omega, rfl⟩) rfl (by assumption) (by omega) ?_
          refine am_callVg (pc' := 36) (as := [_]) (ci := 0) (mc := mc) (bc := 0) (ms := ms) (bs := 0) rfl dX7_rows_33 rfl ok_X0_workOut ml_X7_128 im_X0_workOut se_X0_workOut rfl (Nat.le_of_ble_eq_true rfl) rfl (Nat.le_of_ble_eq_true rfl) (by first | assumption | exact ⟨by omega, by omega, rfl⟩) (t_wo hI hg.2 hb) (fun r_33 ρ_33 h_33 q_33 g_33 e_33 => ?_)
          obtain ⟨rfl, A', L', q1, q2, q3, q4, q5⟩ := q_33
          have hC2 := q2.1
          have n2 := hC2.1
          have x1 := am_lc hC2 1 1 11 (by decide)
          have x2 := am_lc hC2 1 3 19 (by decide)
          have hN := ar_QN q2
          have hT : cl_T ρ h L S K mc ms ρ_33 h_33 := ⟨A', L', q1, fun x j z => q3 x j (by omega), q5⟩
          have hD := q2.2.1
          have u0 : ∀ k, h_33 11 k = h 11 k := fun k => q3 11 k (by omega)
          have hO2 : am_RO h_33 11 := (cl_RO q1.1.1 (by rw [u0]; exact hP0)).1
          have er : mt_cd (h_33 11 0) (h_33 (11 + 2)) (h_33 11 1).toNat = o_row h := by
            rw [u0, u0, show h_33 (11 + 2) = h 13 from funext fun k => q3 13 k (by omega)]; rfl
          have hr2 : 0 ≤ o_row h ∧ o_row h < h_33 19 7 := by rw [q4]; exact hrow
          obtain ⟨z0, z1, z2, z3, z4, z5, z6, z7⟩ := id q2.2.2.1
          rw [q4] at z3 z4 z5 z6
          refine am_iload_n (pc' := 37) dX7_rows_36 rfl rfl rfl ?_
          refine am_case (0) (fun c_37_0 => ?_) (fun c_37_0 => ?_)
          · refine am_tabIn (pc' := 68) (off := 31) dX7_rows_37 (by decide) (by decide) rfl rfl ?_
            refine am_aload_n (pc' := 69) dX7_rows_68 rfl rfl rfl ?_
            refine am_getRk (ki := 3) (pc' := 72) (k := 3) (ci := 6) rfl dX7_rows_69 rfl fl_X7_31 (by first | assumption | exact ⟨by omega, by omega, rfl⟩) rfl (by assumption) (by omega) ?_
            refine am_getIk (ki := 7) (pc' := 75) (k := 7) (ci := 0) rfl dX7_rows_72 rfl fl_X7_190 (by first | assumption | exact ⟨by omega, by omega, rfl⟩) rfl ?_
            refine am_reti dX7_rows_75 rfl ?_
            refine ⟨hT, _, rfl, Or.inr (Or.inr ⟨hg.1, hg.2, ?_⟩)⟩
            unfold o_rows; rw [if_pos (by omega)]; exact q4
          refine am_case (1) (fun c_37_1 => ?_) (fun c_37_1 => ?_)
          · refine am_tabIn (pc' := 76) (off := 39) dX7_rows_37 (by decide) (by decide) rfl rfl ?_
            refine am_aload_n (pc' := 77) dX7_rows_76 rfl rfl rfl ?_
            refine am_getRk (ki := 3) (pc' := 80) (k := 3) (ci := 6) rfl dX7_rows_77 rfl fl_X7_31 (by first | assumption | exact ⟨by omega, by omega, rfl⟩) rfl (by assumption) (by omega) ?_
            refine am_getIk (ki := 8) (pc' := 83) (k := 8) (ci := 0) rfl dX7_rows_80 rfl fl_X7_191 (by first | assumption | exact ⟨by omega, by omega, rfl⟩) rfl ?_
            refine am_reti dX7_rows_83 rfl ?_
            refine ⟨hT, _, rfl, Or.inr (Or.inr ⟨hg.1, hg.2, ?_⟩)⟩
            unfold o_rows; rw [if_neg (by omega), if_pos (by omega)]; exact z3
          refine am_case (2) (fun c_37_2 => ?_) (fun c_37_2 => ?_)
          · refine am_tabIn (pc' := 84) (off := 47) dX7_rows_37 (by decide) (by decide) rfl rfl ?_
            refine am_aload_n (pc' := 85) dX7_rows_84 rfl rfl rfl ?_
            refine am_getRk (ki := 3) (pc' := 88) (k := 3) (ci := 6) rfl dX7_rows_85 rfl fl_X7_31 (by first | assumption | exact ⟨by omega, by omega, rfl⟩) rfl (by assumption) (by omega) ?_
            refine am_getIk (ki := 9) (pc' := 91) (k := 9) (ci := 0) rfl dX7_rows_88 rfl fl_X7_194 (by first | assumption | exact ⟨by omega, by omega, rfl⟩) rfl ?_
            refine am_reti dX7_rows_91 rfl ?_
            refine ⟨hT, _, rfl, Or.inr (Or.inr ⟨hg.1, hg.2, ?_⟩)⟩
            unfold o_rows; rw [if_neg (by omega), if_neg (by omega), if_pos (by omega)]; exact z4
          refine am_case (3) (fun c_37_3 => ?_) (fun c_37_3 => ?_)
          · refine am_tabIn (pc' := 92) (off := 55) dX7_rows_37 (by decide) (by decide) rfl rfl ?_
            refine am_aload_n (pc' := 93) dX7_rows_92 rfl rfl rfl ?_
            refine am_getRk (ki := 3) (pc' := 96) (k := 3) (ci := 6) rfl dX7_rows_93 rfl fl_X7_31 (by first | assumption | exact ⟨by omega, by omega, rfl⟩) rfl (by assumption) (by omega) ?_
            refine am_getIk (ki := 10) (pc' := 99) (k := 10) (ci := 0) rfl dX7_rows_96 rfl fl_X7_197 (by first | assumption | exact ⟨by omega, by omega, rfl⟩) rfl ?_
            refine am_reti dX7_rows_99 rfl ?_
            refine ⟨hT, _, rfl, Or.inr (Or.inr ⟨hg.1, hg.2, ?_⟩)⟩
            unfold o_rows; rw [if_neg (by omega), if_neg (by omega), if_neg (by omega), if_pos (by omega)]; exact z5
          refine am_tabOut (pc' := 100) dX7_rows_37 rfl (by omega) ?_
          refine am_aload_n (pc' := 101) dX7_rows_100 rfl rfl rfl ?_
          refine am_getRk (ki := 3) (pc' := 104) (k := 3) (ci := 6) rfl dX7_rows_101 rfl fl_X7_31 (by first | assumption | exact ⟨by omega, by omega, rfl⟩) rfl (by assumption) (by omega) ?_
          refine am_getIk (ki := 11) (pc' := 107) (k := 11) (ci := 0) rfl dX7_rows_104 rfl fl_X7_200 (by first | assumption | exact ⟨by omega, by omega, rfl⟩) rfl ?_
          refine am_reti dX7_rows_107 rfl ?_
          refine ⟨hT, _, rfl, Or.inr (Or.inr ⟨hg.1, hg.2, ?_⟩)⟩
          unfold o_rows; rw [if_neg (by omega), if_neg (by omega), if_neg (by omega), if_neg (by omega)]; exact z6
        · simp only [am_z0, am_z1, ne_eq] at c_19
          exfalso; omega
      · exfalso; omega
  · have hT : cl_T ρ h L S K 0 0 ρ h := ⟨A, L, hI, fun _ _ _ => rfl, Or.inl ⟨rfl, rfl, rfl⟩⟩
    refine am_iload_n (pc' := 1) dX7_rows_0 rfl rfl rfl ?_
    refine am_if_lt (pc' := 4) (tgt := 9) dX7_rows_1 rfl rfl (fun c_1 => ?_) (fun c_1 => ?_)
    · refine am_bipush (pc' := 11) dX7_rows_9 rfl rfl (by decide) ?_
      refine am_reti dX7_rows_11 rfl ?_
      exact ⟨hT, _, rfl, Or.inl ⟨by omega, rfl⟩⟩
    · refine am_iload_n (pc' := 5) dX7_rows_4 rfl rfl rfl ?_
      refine am_iconst (pc' := 6) dX7_rows_5 rfl rfl ?_
      refine am_icmp_le (pc' := 9) (tgt := 12) dX7_rows_6 rfl rfl (fun c_6 => ?_) (fun c_6 => ?_)
      · refine am_aload_n (pc' := 13) dX7_rows_12 rfl rfl rfl ?_
        refine am_getRk (ki := 1) (pc' := 16) (k := 1) (ci := 6) rfl dX7_rows_13 rfl fl_X7_21 (by first | assumption | exact ⟨by omega, by omega, rfl⟩) rfl (by assumption) (by omega) ?_
        refine am_callVp (pc' := 19) (as := []) (ci := 3)  rfl dX7_rows_16 rfl ok_X3_isNone ml_X7_115 im_X3_isNone se_X3_isNone rfl (Nat.le_of_ble_eq_true rfl) rfl (Nat.le_of_ble_eq_true rfl) (by first | assumption | exact ⟨by omega, by omega, rfl⟩) (t_isNone hR) ?_
        refine am_if_eq (pc' := 22) (tgt := 25) dX7_rows_19 rfl rfl (fun c_19 => ?_) (fun c_19 => ?_)
        · simp only [am_z0, am_z1, ne_eq] at c_19
          exfalso; exact hg ⟨by omega, by omega⟩
        · simp only [am_z0, am_z1, ne_eq] at c_19
          refine am_bipush (pc' := 24) dX7_rows_22 rfl rfl (by decide) ?_
          refine am_reti dX7_rows_24 rfl ?_
          exact ⟨hT, _, rfl, Or.inr (Or.inl ⟨by omega, by omega, rfl⟩)⟩
      · refine am_bipush (pc' := 11) dX7_rows_9 rfl rfl (by decide) ?_
        refine am_reti dX7_rows_11 rfl ?_
        exact ⟨hT, _, rfl, Or.inl ⟨by omega, rfl⟩⟩
def o_longest (nx : Int → Int) (N P B k v : Int) : Prop := ∃ (tl : Int → Int) (m c : Int), (∀ d, 0 ≤ d → d < N → gr_tl nx d (tl d)) ∧ gr_lg tl N m c ∧ v = if k < 0 then m else if k < P then dg P B c k else -9
theorem t_longest {ρ h : am_H} {A L S K k : Int} {mc ms : Nat} (hI : cl_I ρ h A L S K) (hb : cl_b ((-1 ≤ k ∧ k < 5) ∧ h 11 1 ≠ 0) h L (mt_pw (h 11 0) (h 11 1).toNat) mc ms) :
    am_CT mX7_longest mc ms [am_R 1, am_I k] ρ h (fun r ρ' h' => cl_T ρ h L S K mc ms ρ' h' ∧ ∃ v, r = some (am_I v) ∧ o_g3 (-1 ≤ k ∧ k < 5) (h 11 1) (o_longest (o_nx h) (o_N h) (h 11 1) (h 11 0) k) v) := by
  have hC := hI.2.1.1
  have hn58 := hC.1
  have hR := am_RA11 hC
  have e1 := am_lc hC 1 1 11 (by decide)
  have e2 := am_lc hC 1 3 19 (by decide)
  have k0 : am_in ρ 19 0 := ⟨by omega, by omega, rfl⟩
  refine am_ct (ls := [some (am_R 1), some (am_I k)]) ok_X7_longest rfl (fun _ => Nat.le_of_ble_eq_true rfl) (fun _ => rfl) (by intro v hv; simpa using hv) ?_
  rcases hb with ⟨hg, hb⟩ | ⟨hg, rfl, rfl⟩
  · have hP0 := hg.2
    have hO := (cl_RO hI.1.1 hg.2).1
    have hrow := o_row_in hO
    refine am_iload_n (pc' := 1) dX7_longest_0 rfl rfl rfl ?_
    refine am_iconst (pc' := 2) dX7_longest_1 rfl rfl ?_
    refine am_icmp_lt (pc' := 5) (tgt := 10) dX7_longest_2 rfl rfl (fun c_2 => ?_) (fun c_2 => ?_)
    · exfalso; omega
    · refine am_iload_n (pc' := 6) dX7_longest_5 rfl rfl rfl ?_
      refine am_iconst (pc' := 7) dX7_longest_6 rfl rfl ?_
      refine am_icmp_lt (pc' := 10) (tgt := 13) dX7_longest_7 rfl rfl (fun c_7 => ?_) (fun c_7 => ?_)
      · refine am_aload_n (pc' := 14) dX7_longest_13 rfl rfl rfl ?_
        refine am_getRk (ki := 1) (pc' := 17) (k := 1) (ci := 6) rfl dX7_longest_14 rfl fl_X7_21 (by first | assumption | exact ⟨by omega, by omega, rfl⟩) rfl (by assumption) (by omega) ?_
        refine am_callVp (pc' := 20) (as := []) (ci := 3)  rfl dX7_longest_17 rfl ok_X3_isNone ml_X7_115 im_X3_isNone se_X3_isNone rfl (Nat.le_of_ble_eq_true rfl) rfl (Nat.le_of_ble_eq_true rfl) (by first | assumption | exact ⟨by omega, by omega, rfl⟩) (t_isNone hR) ?_
        refine am_if_eq (pc' := 23) (tgt := 26) dX7_longest_20 rfl rfl (fun c_20 => ?_) (fun c_20 => ?_)
        · simp only [am_z0, am_z1, ne_eq] at c_20
          refine am_aload_n (pc' := 27) dX7_longest_26 rfl rfl rfl ?_
          refine am_getRk (ki := 3) (pc' := 30) (k := 3) (ci := 6) rfl dX7_longest_27 rfl fl_X7_31 (by first | assumption | exact ⟨by omega, by omega, rfl⟩) rfl (by assumption) (by omega) ?_
          refine am_aload_n (pc' := 31) dX7_longest_30 rfl rfl rfl ?_
          refine am_getRk (ki := 1) (pc' := 34) (k := 1) (ci := 6) rfl dX7_longest_31 rfl fl_X7_21 (by first | assumption | exact ⟨by omega, by omega, rfl⟩) rfl (by assumption) (by omega) ?_
          refine am_callVg (pc' := 37) (as := [_]) (ci := 0) (mc := mc) (bc := 0) (ms := ms) (bs := 0) rfl dX7_longest_34 rfl ok_X0_workOut ml_X7_128 im_X0_workOut se_X0_workOut rfl (Nat.le_of_ble_eq_true rfl) rfl (Nat.le_of_ble_eq_true rfl) (by first | assumption | exact ⟨by omega, by omega, rfl⟩) (t_wo hI hg.2 hb) (fun r_34 ρ_34 h_34 q_34 g_34 e_34 => ?_)
          obtain ⟨rfl, A', L', q1, q2, q3, q4, q5⟩ := q_34
          have hC2 := q2.1
          have n2 := hC2.1
          have x1 := am_lc hC2 1 1 11 (by decide)
          have x2 := am_lc hC2 1 3 19 (by decide)
          have hN := ar_QN q2
          have hT : cl_T ρ h L S K mc ms ρ_34 h_34 := ⟨A', L', q1, fun x j z => q3 x j (by omega), q5⟩
          have hD := q2.2.1
          have u0 : ∀ k, h_34 11 k = h 11 k := fun k => q3 11 k (by omega)
          have hO2 : am_RO h_34 11 := (cl_RO q1.1.1 (by rw [u0]; exact hP0)).1
          have er : mt_cd (h_34 11 0) (h_34 (11 + 2)) (h_34 11 1).toNat = o_row h := by
            rw [u0, u0, show h_34 (11 + 2) = h 13 from funext fun k => q3 13 k (by omega)]; rfl
          have hr2 : 0 ≤ o_row h ∧ o_row h < h_34 19 7 := by rw [q4]; exact hrow
          obtain ⟨z0, z1, z2, z3, z4, z5, z6, z7⟩ := id q2.2.2.1
          rw [q4] at z7
          have zt : ∀ d, 0 ≤ d → d < o_N h → gr_tl (o_nx h) d (h_34 (A' + 4) d) := fun d d0 d1 => (z2 d d0 (by rw [q4]; exact d1)).1
          refine am_iload_n (pc' := 38) dX7_longest_37 rfl rfl rfl ?_
          refine am_if_ge (pc' := 41) (tgt := 49) dX7_longest_38 rfl rfl (fun c_38 => ?_) (fun c_38 => ?_)
          · refine am_aload_n (pc' := 50) dX7_longest_49 rfl rfl rfl ?_
            refine am_getRk (ki := 1) (pc' := 53) (k := 1) (ci := 6) rfl dX7_longest_50 rfl fl_X7_21 (by first | assumption | exact ⟨by omega, by omega, rfl⟩) rfl (by assumption) (by omega) ?_
            refine am_iload_n (pc' := 54) dX7_longest_53 rfl rfl rfl ?_
            refine am_callVp (pc' := 57) (as := [_]) (ci := 3)  rfl dX7_longest_54 rfl ok_X3_has ml_X7_98 im_X3_has se_X3_has rfl (Nat.le_of_ble_eq_true rfl) rfl (Nat.le_of_ble_eq_true rfl) (by first | assumption | exact ⟨by omega, by omega, rfl⟩) (t_has (am_RA11 hC2)) ?_
            refine am_if_eq (pc' := 60) (tgt := 78) dX7_longest_57 rfl rfl (fun c_57 => ?_) (fun c_57 => ?_)
            · simp only [am_z0, am_z1, ne_eq] at c_57
              refine am_bipush (pc' := 80) dX7_longest_78 rfl rfl (by decide) ?_
              refine am_reti dX7_longest_80 rfl ?_
              first | exact ⟨hT, _, rfl, Or.inr (Or.inr ⟨hg.1, hg.2, _, _, _, zt, z7, by rw [if_neg (by omega), if_pos (by rw [u0] at c_57; omega)]⟩)⟩ | exact ⟨hT, _, rfl, Or.inr (Or.inr ⟨hg.1, hg.2, _, _, _, zt, z7, by rw [if_neg (by omega), if_neg (by rw [u0] at c_57; omega)]⟩)⟩ | fail
            · simp only [am_z0, am_z1, ne_eq] at c_57
              refine am_aload_n (pc' := 61) dX7_longest_60 rfl rfl rfl ?_
              refine am_getRk (ki := 3) (pc' := 64) (k := 3) (ci := 6) rfl dX7_longest_61 rfl fl_X7_31 (by first | assumption | exact ⟨by omega, by omega, rfl⟩) rfl (by assumption) (by omega) ?_
              refine am_aload_n (pc' := 65) dX7_longest_64 rfl rfl rfl ?_
              refine am_getRk (ki := 3) (pc' := 68) (k := 3) (ci := 6) rfl dX7_longest_65 rfl fl_X7_31 (by first | assumption | exact ⟨by omega, by omega, rfl⟩) rfl (by assumption) (by omega) ?_
              refine am_getIk (ki := 13) (pc' := 71) (k := 13) (ci := 0) rfl dX7_longest_68 rfl fl_X7_206 (by first | assumption | exact ⟨by omega, by omega, rfl⟩) rfl ?_
              refine am_iload_n (pc' := 72) dX7_longest_71 rfl rfl rfl ?_
              refine am_callVp (pc' := 75) (as := [_, _]) (ci := 0)  rfl dX7_longest_72 rfl ok_X0_numberIn ml_X7_139 im_X0_numberIn se_X0_numberIn rfl (Nat.le_of_ble_eq_true rfl) rfl (Nat.le_of_ble_eq_true rfl) (by first | assumption | exact ⟨by omega, by omega, rfl⟩) (t_numberIn q2 (by have := z7.1; omega) (by rw [u0] at c_57; omega)) ?_
              refine am_goto (pc' := 80) dX7_longest_75 rfl ?_
              refine am_reti dX7_longest_80 rfl ?_
              first | exact ⟨hT, _, rfl, Or.inr (Or.inr ⟨hg.1, hg.2, _, _, _, zt, z7, by rw [if_neg (by omega), if_pos (by rw [u0] at c_57; omega)]⟩)⟩ | exact ⟨hT, _, rfl, Or.inr (Or.inr ⟨hg.1, hg.2, _, _, _, zt, z7, by rw [if_neg (by omega), if_neg (by rw [u0] at c_57; omega)]⟩)⟩ | fail
          · refine am_aload_n (pc' := 42) dX7_longest_41 rfl rfl rfl ?_
            refine am_getRk (ki := 3) (pc' := 45) (k := 3) (ci := 6) rfl dX7_longest_42 rfl fl_X7_31 (by first | assumption | exact ⟨by omega, by omega, rfl⟩) rfl (by assumption) (by omega) ?_
            refine am_getIk (ki := 12) (pc' := 48) (k := 12) (ci := 0) rfl dX7_longest_45 rfl fl_X7_203 (by first | assumption | exact ⟨by omega, by omega, rfl⟩) rfl ?_
            refine am_reti dX7_longest_48 rfl ?_
            exact ⟨hT, _, rfl, Or.inr (Or.inr ⟨hg.1, hg.2, _, _, _, zt, z7, by rw [if_pos (by omega)]⟩)⟩
        · simp only [am_z0, am_z1, ne_eq] at c_20
          exfalso; omega
      · exfalso; omega
  · have hT : cl_T ρ h L S K 0 0 ρ h := ⟨A, L, hI, fun _ _ _ => rfl, Or.inl ⟨rfl, rfl, rfl⟩⟩
    refine am_iload_n (pc' := 1) dX7_longest_0 rfl rfl rfl ?_
    refine am_iconst (pc' := 2) dX7_longest_1 rfl rfl ?_
    refine am_icmp_lt (pc' := 5) (tgt := 10) dX7_longest_2 rfl rfl (fun c_2 => ?_) (fun c_2 => ?_)
    · refine am_bipush (pc' := 12) dX7_longest_10 rfl rfl (by decide) ?_
      refine am_reti dX7_longest_12 rfl ?_
      exact ⟨hT, _, rfl, Or.inl ⟨by omega, rfl⟩⟩
    · refine am_iload_n (pc' := 6) dX7_longest_5 rfl rfl rfl ?_
      refine am_iconst (pc' := 7) dX7_longest_6 rfl rfl ?_
      refine am_icmp_lt (pc' := 10) (tgt := 13) dX7_longest_7 rfl rfl (fun c_7 => ?_) (fun c_7 => ?_)
      · refine am_aload_n (pc' := 14) dX7_longest_13 rfl rfl rfl ?_
        refine am_getRk (ki := 1) (pc' := 17) (k := 1) (ci := 6) rfl dX7_longest_14 rfl fl_X7_21 (by first | assumption | exact ⟨by omega, by omega, rfl⟩) rfl (by assumption) (by omega) ?_
        refine am_callVp (pc' := 20) (as := []) (ci := 3)  rfl dX7_longest_17 rfl ok_X3_isNone ml_X7_115 im_X3_isNone se_X3_isNone rfl (Nat.le_of_ble_eq_true rfl) rfl (Nat.le_of_ble_eq_true rfl) (by first | assumption | exact ⟨by omega, by omega, rfl⟩) (t_isNone hR) ?_
        refine am_if_eq (pc' := 23) (tgt := 26) dX7_longest_20 rfl rfl (fun c_20 => ?_) (fun c_20 => ?_)
        · simp only [am_z0, am_z1, ne_eq] at c_20
          exfalso; exact hg ⟨by omega, by omega⟩
        · simp only [am_z0, am_z1, ne_eq] at c_20
          refine am_bipush (pc' := 25) dX7_longest_23 rfl rfl (by decide) ?_
          refine am_reti dX7_longest_25 rfl ?_
          exact ⟨hT, _, rfl, Or.inr (Or.inl ⟨by omega, by omega, rfl⟩)⟩
      · refine am_bipush (pc' := 12) dX7_longest_10 rfl rfl (by decide) ?_
        refine am_reti dX7_longest_12 rfl ?_
        exact ⟨hT, _, rfl, Or.inl ⟨by omega, rfl⟩⟩
def o_few (nx : Int → Int) (N P B c w v : Int) : Prop := ∃ T, fw_is nx N P B (dg P B c) T ∧ (0 ≤ T ∧ T < 32) ∧ v = if w = 0 then bct T else T
theorem t_few {ρ h : am_H} {A L S K w : Int} {mc ms : Nat} (hI : cl_I ρ h A L S K) (hb : cl_b ((0 ≤ w ∧ w ≤ 1) ∧ h 11 1 ≠ 0) h L (mt_pw (h 11 0) (h 11 1).toNat) mc ms) :
    am_CT mX7_few mc ms [am_R 1, am_I w] ρ h (fun r ρ' h' => cl_T ρ h L S K mc ms ρ' h' ∧ ∃ v, r = some (am_I v) ∧ o_g3 (0 ≤ w ∧ w ≤ 1) (h 11 1) (o_few (o_nx h) (o_N h) (h 11 1) (h 11 0) (o_row h) w) v) := by
  have hC := hI.2.1.1
  have hn58 := hC.1
  have hR := am_RA11 hC
  have e1 := am_lc hC 1 1 11 (by decide)
  have e2 := am_lc hC 1 3 19 (by decide)
  have k0 : am_in ρ 19 0 := ⟨by omega, by omega, rfl⟩
  refine am_ct (ls := [some (am_R 1), some (am_I w), none]) ok_X7_few rfl (fun _ => Nat.le_of_ble_eq_true rfl) (fun _ => rfl) (by intro v hv; simpa using hv) ?_
  rcases hb with ⟨hg, hb⟩ | ⟨hg, rfl, rfl⟩
  · have hP0 := hg.2
    have hO := (cl_RO hI.1.1 hg.2).1
    have hrow := o_row_in hO
    refine am_iload_n (pc' := 1) dX7_few_0 rfl rfl rfl ?_
    refine am_if_lt (pc' := 4) (tgt := 9) dX7_few_1 rfl rfl (fun c_1 => ?_) (fun c_1 => ?_)
    · exfalso; omega
    · refine am_iload_n (pc' := 5) dX7_few_4 rfl rfl rfl ?_
      refine am_iconst (pc' := 6) dX7_few_5 rfl rfl ?_
      refine am_icmp_le (pc' := 9) (tgt := 12) dX7_few_6 rfl rfl (fun c_6 => ?_) (fun c_6 => ?_)
      · refine am_aload_n (pc' := 13) dX7_few_12 rfl rfl rfl ?_
        refine am_getRk (ki := 1) (pc' := 16) (k := 1) (ci := 6) rfl dX7_few_13 rfl fl_X7_21 (by first | assumption | exact ⟨by omega, by omega, rfl⟩) rfl (by assumption) (by omega) ?_
        refine am_callVp (pc' := 19) (as := []) (ci := 3)  rfl dX7_few_16 rfl ok_X3_isNone ml_X7_115 im_X3_isNone se_X3_isNone rfl (Nat.le_of_ble_eq_true rfl) rfl (Nat.le_of_ble_eq_true rfl) (by first | assumption | exact ⟨by omega, by omega, rfl⟩) (t_isNone hR) ?_
        refine am_if_eq (pc' := 22) (tgt := 25) dX7_few_19 rfl rfl (fun c_19 => ?_) (fun c_19 => ?_)
        · simp only [am_z0, am_z1, ne_eq] at c_19
          refine am_aload_n (pc' := 26) dX7_few_25 rfl rfl rfl ?_
          refine am_getRk (ki := 3) (pc' := 29) (k := 3) (ci := 6) rfl dX7_few_26 rfl fl_X7_31 (by first | assumption | exact ⟨by omega, by omega, rfl⟩) rfl (by assumption) (by omega) ?_
          refine am_aload_n (pc' := 30) dX7_few_29 rfl rfl rfl ?_
          refine am_getRk (ki := 1) (pc' := 33) (k := 1) (ci := 6) rfl dX7_few_30 rfl fl_X7_21 (by first | assumption | exact ⟨by omega, by omega, rfl⟩) rfl (by assumption) (by omega) ?_
          refine am_callVg (pc' := 36) (as := [_]) (ci := 0) (mc := mc) (bc := 0) (ms := ms) (bs := 0) rfl dX7_few_33 rfl ok_X0_workOut ml_X7_128 im_X0_workOut se_X0_workOut rfl (Nat.le_of_ble_eq_true rfl) rfl (Nat.le_of_ble_eq_true rfl) (by first | assumption | exact ⟨by omega, by omega, rfl⟩) (t_wo hI hg.2 hb) (fun r_33 ρ_33 h_33 q_33 g_33 e_33 => ?_)
          obtain ⟨rfl, A', L', q1, q2, q3, q4, q5⟩ := q_33
          have hC2 := q2.1
          have n2 := hC2.1
          have x1 := am_lc hC2 1 1 11 (by decide)
          have x2 := am_lc hC2 1 3 19 (by decide)
          have hN := ar_QN q2
          have hT : cl_T ρ h L S K mc ms ρ_33 h_33 := ⟨A', L', q1, fun x j z => q3 x j (by omega), q5⟩
          have hD := q2.2.1
          have u0 : ∀ k, h_33 11 k = h 11 k := fun k => q3 11 k (by omega)
          have hO2 : am_RO h_33 11 := (cl_RO q1.1.1 (by rw [u0]; exact hP0)).1
          have er : mt_cd (h_33 11 0) (h_33 (11 + 2)) (h_33 11 1).toNat = o_row h := by
            rw [u0, u0, show h_33 (11 + 2) = h 13 from funext fun k => q3 13 k (by omega)]; rfl
          have hr2 : 0 ≤ o_row h ∧ o_row h < h_33 19 7 := by rw [q4]; exact hrow
          refine am_aload_n (pc' := 37) dX7_few_36 rfl rfl rfl ?_
          refine am_getRk (ki := 3) (pc' := 40) (k := 3) (ci := 6) rfl dX7_few_37 rfl fl_X7_31 (by first | assumption | exact ⟨by omega, by omega, rfl⟩) rfl (by assumption) (by omega) ?_
          refine am_aload_n (pc' := 41) dX7_few_40 rfl rfl rfl ?_
          refine am_getRk (ki := 1) (pc' := 44) (k := 1) (ci := 6) rfl dX7_few_41 rfl fl_X7_21 (by first | assumption | exact ⟨by omega, by omega, rfl⟩) rfl (by assumption) (by omega) ?_
          refine am_callVp (pc' := 47) (as := []) (ci := 3)  rfl dX7_few_44 rfl ok_X3_code ml_X7_132 im_X3_code se_X3_code rfl (Nat.le_of_ble_eq_true rfl) rfl (Nat.le_of_ble_eq_true rfl) (by first | assumption | exact ⟨by omega, by omega, rfl⟩) (t_code (am_RA11 hC2) hO2) ?_
          rw [er]
          refine am_callV0 (pc' := 50) (as := [_]) (ci := 0)  rfl dX7_few_47 rfl ok_X0_leastSetToGoOut ml_X7_216 im_X0_leastSetToGoOut se_X0_leastSetToGoOut rfl (Nat.le_of_ble_eq_true rfl) rfl (Nat.le_of_ble_eq_true rfl) (by first | assumption | exact ⟨by omega, by omega, rfl⟩) (t_least q2 hr2) (fun r_47 ρ_47 h_47 q_47 g_47 e_47 => ?_)
          obtain ⟨rfl, rfl, T, rfl, hT1, hT2⟩ := q_47
          rw [q4] at hT1
          refine am_istore_n (pc' := 51) (ls' := [_, _, _]) dX7_few_50 rfl rfl (Nat.le_of_ble_eq_true rfl) rfl rfl ?_
          refine am_iload_n (pc' := 52) dX7_few_51 rfl rfl rfl ?_
          refine am_if_ne (pc' := 55) (tgt := 62) dX7_few_52 rfl rfl (fun c_52 => ?_) (fun c_52 => ?_)
          · refine am_iload_n (pc' := 63) dX7_few_62 rfl rfl rfl ?_
            refine am_reti dX7_few_63 rfl ?_
            first | exact ⟨hT, _, rfl, Or.inr (Or.inr ⟨hg.1, hg.2, T, hT1, hT2, by rw [if_pos (by omega)]⟩)⟩ | exact ⟨hT, _, rfl, Or.inr (Or.inr ⟨hg.1, hg.2, T, hT1, hT2, by rw [if_neg (by omega)]⟩)⟩ | fail
          · refine am_iload_n (pc' := 56) dX7_few_55 rfl rfl rfl ?_
            refine am_callSp (pc' := 59) (as := [_])  rfl dX7_few_56 rfl ok_J6_bitCount_0f7a4 ml_X7_219 sm_J6_bitCount_0f7a4 (Nat.le_of_ble_eq_true rfl) rfl (Nat.le_of_ble_eq_true rfl) (t_bitCount hT2) ?_
            refine am_goto (pc' := 63) dX7_few_59 rfl ?_
            refine am_reti dX7_few_63 rfl ?_
            first | exact ⟨hT, _, rfl, Or.inr (Or.inr ⟨hg.1, hg.2, T, hT1, hT2, by rw [if_pos (by omega)]⟩)⟩ | exact ⟨hT, _, rfl, Or.inr (Or.inr ⟨hg.1, hg.2, T, hT1, hT2, by rw [if_neg (by omega)]⟩)⟩ | fail
        · simp only [am_z0, am_z1, ne_eq] at c_19
          exfalso; omega
      · exfalso; omega
  · have hT : cl_T ρ h L S K 0 0 ρ h := ⟨A, L, hI, fun _ _ _ => rfl, Or.inl ⟨rfl, rfl, rfl⟩⟩
    refine am_iload_n (pc' := 1) dX7_few_0 rfl rfl rfl ?_
    refine am_if_lt (pc' := 4) (tgt := 9) dX7_few_1 rfl rfl (fun c_1 => ?_) (fun c_1 => ?_)
    · refine am_bipush (pc' := 11) dX7_few_9 rfl rfl (by decide) ?_
      refine am_reti dX7_few_11 rfl ?_
      exact ⟨hT, _, rfl, Or.inl ⟨by omega, rfl⟩⟩
    · refine am_iload_n (pc' := 5) dX7_few_4 rfl rfl rfl ?_
      refine am_iconst (pc' := 6) dX7_few_5 rfl rfl ?_
      refine am_icmp_le (pc' := 9) (tgt := 12) dX7_few_6 rfl rfl (fun c_6 => ?_) (fun c_6 => ?_)
      · refine am_aload_n (pc' := 13) dX7_few_12 rfl rfl rfl ?_
        refine am_getRk (ki := 1) (pc' := 16) (k := 1) (ci := 6) rfl dX7_few_13 rfl fl_X7_21 (by first | assumption | exact ⟨by omega, by omega, rfl⟩) rfl (by assumption) (by omega) ?_
        refine am_callVp (pc' := 19) (as := []) (ci := 3)  rfl dX7_few_16 rfl ok_X3_isNone ml_X7_115 im_X3_isNone se_X3_isNone rfl (Nat.le_of_ble_eq_true rfl) rfl (Nat.le_of_ble_eq_true rfl) (by first | assumption | exact ⟨by omega, by omega, rfl⟩) (t_isNone hR) ?_
        refine am_if_eq (pc' := 22) (tgt := 25) dX7_few_19 rfl rfl (fun c_19 => ?_) (fun c_19 => ?_)
        · simp only [am_z0, am_z1, ne_eq] at c_19
          exfalso; exact hg ⟨by omega, by omega⟩
        · simp only [am_z0, am_z1, ne_eq] at c_19
          refine am_bipush (pc' := 24) dX7_few_22 rfl rfl (by decide) ?_
          refine am_reti dX7_few_24 rfl ?_
          exact ⟨hT, _, rfl, Or.inr (Or.inl ⟨by omega, by omega, rfl⟩)⟩
      · refine am_bipush (pc' := 11) dX7_few_9 rfl rfl (by decide) ?_
        refine am_reti dX7_few_11 rfl ?_
        exact ⟨hT, _, rfl, Or.inl ⟨by omega, rfl⟩⟩
