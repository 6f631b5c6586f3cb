/-! DifferRings: cell 1 -/
/-- what is seen of it is in order -/
def cl_R (h : am_H) : Prop := (h 11 1 = 0 ∧ h 11 0 = 0) ∨ (am_RO h 11 ∧ ∀ p, 0 ≤ p → p < h 11 1 → 0 ≤ h 12 p ∧ h 12 p ≤ 2)
def cl_S (h : am_H) : Prop := ∀ k, 0 ≤ k → k < 4 → am_SO h (3 + 2 * k) ∧ -1 ≤ h (3 + 2 * k) 0 ∧ h (3 + 2 * k) 0 ≤ 2
def cl_G (h : am_H) : Prop := cl_R h ∧ cl_S h ∧ rd_OK h (h 11 1)
theorem cl_RO {h : am_H} (hG : cl_R h) (h0 : h 11 1 ≠ 0) : am_RO h 11 ∧ ∀ p, 0 ≤ p → p < h 11 1 → 0 ≤ h 12 p ∧ h 12 p ≤ 2 := by
  rcases hG with z | z
  · exact absurd z.1 h0
  · exact z
theorem cl_P5 {h : am_H} (hG : cl_R h) : 0 ≤ h 11 1 ∧ h 11 1 ≤ 5 := by
  rcases hG with z | z
  · omega
  · have := z.1.1
    have := z.1.2.1
    omega
theorem t_isSheet {ρ h : am_H} {k : Int} : am_CT mX7_isSheet 0 0 [am_I k] ρ h (am_P (am_I (if 0 ≤ k ∧ k < 4 then 1 else 0)) ρ h) := by
  refine am_ct (ls := [some (am_I k)]) ok_X7_isSheet rfl (fun _ => Nat.le_of_ble_eq_true rfl) (fun _ => rfl) (by intro v hv; simpa using hv) ?_
  refine am_iload_n (pc' := 1) dX7_isSheet_0 rfl rfl rfl ?_
  refine am_if_lt (pc' := 4) (tgt := 13) dX7_isSheet_1 rfl rfl (fun c_1 => ?_) (fun c_1 => ?_)
  · refine am_iconst (pc' := 14) dX7_isSheet_13 rfl rfl ?_
    refine am_retz dX7_isSheet_14 rfl (by first | exact Or.inl rfl | exact Or.inr rfl | omega) ?_
    exact ⟨by first | rw [if_pos (by omega)] | rw [if_neg (by omega)], rfl, rfl⟩
  · refine am_iload_n (pc' := 5) dX7_isSheet_4 rfl rfl rfl ?_
    refine am_iconst (pc' := 6) dX7_isSheet_5 rfl rfl ?_
    refine am_icmp_ge (pc' := 9) (tgt := 13) dX7_isSheet_6 rfl rfl (fun c_6 => ?_) (fun c_6 => ?_)
    · refine am_iconst (pc' := 14) dX7_isSheet_13 rfl rfl ?_
      refine am_retz dX7_isSheet_14 rfl (by first | exact Or.inl rfl | exact Or.inr rfl | omega) ?_
      exact ⟨by first | rw [if_pos (by omega)] | rw [if_neg (by omega)], rfl, rfl⟩
    · refine am_iconst (pc' := 10) dX7_isSheet_9 rfl rfl ?_
      refine am_goto (pc' := 14) dX7_isSheet_10 rfl ?_
      refine am_retz dX7_isSheet_14 rfl (by first | exact Or.inl rfl | exact Or.inr rfl | omega) ?_
      exact ⟨by first | rw [if_pos (by omega)] | rw [if_neg (by omega)], rfl, rfl⟩
theorem t_isLane {ρ h : am_H} {k : Int} : am_CT mX7_isLane 0 0 [am_I k] ρ h (am_P (am_I (if 0 ≤ k ∧ k < 3 then 1 else 0)) ρ h) := by
  refine am_ct (ls := [some (am_I k)]) ok_X7_isLane rfl (fun _ => Nat.le_of_ble_eq_true rfl) (fun _ => rfl) (by intro v hv; simpa using hv) ?_
  refine am_iload_n (pc' := 1) dX7_isLane_0 rfl rfl rfl ?_
  refine am_if_lt (pc' := 4) (tgt := 13) dX7_isLane_1 rfl rfl (fun c_1 => ?_) (fun c_1 => ?_)
  · refine am_iconst (pc' := 14) dX7_isLane_13 rfl rfl ?_
    refine am_retz dX7_isLane_14 rfl (by first | exact Or.inl rfl | exact Or.inr rfl | omega) ?_
    exact ⟨by first | rw [if_pos (by omega)] | rw [if_neg (by omega)], rfl, rfl⟩
  · refine am_iload_n (pc' := 5) dX7_isLane_4 rfl rfl rfl ?_
    refine am_iconst (pc' := 6) dX7_isLane_5 rfl rfl ?_
    refine am_icmp_ge (pc' := 9) (tgt := 13) dX7_isLane_6 rfl rfl (fun c_6 => ?_) (fun c_6 => ?_)
    · refine am_iconst (pc' := 14) dX7_isLane_13 rfl rfl ?_
      refine am_retz dX7_isLane_14 rfl (by first | exact Or.inl rfl | exact Or.inr rfl | omega) ?_
      exact ⟨by first | rw [if_pos (by omega)] | rw [if_neg (by omega)], rfl, rfl⟩
    · refine am_iconst (pc' := 10) dX7_isLane_9 rfl rfl ?_
      refine am_goto (pc' := 14) dX7_isLane_10 rfl ?_
      refine am_retz dX7_isLane_14 rfl (by first | exact Or.inl rfl | exact Or.inr rfl | omega) ?_
      exact ⟨by first | rw [if_pos (by omega)] | rw [if_neg (by omega)], rfl, rfl⟩
def o_dw (w : Int) : Prop := (0 ≤ w ∧ w ≤ 4) ∨ (10 ≤ w ∧ w ≤ 14)
theorem t_isOfDay {ρ h : am_H} {k : Int} : am_CT mX7_isOfDay 0 0 [am_I k] ρ h (am_P (am_I (if (0 ≤ k ∧ k ≤ 4) ∨ (10 ≤ k ∧ k ≤ 14) then 1 else 0)) ρ h) := by
  refine am_ct (ls := [some (am_I k)]) ok_X7_isOfDay rfl (fun _ => Nat.le_of_ble_eq_true rfl) (fun _ => rfl) (by intro v hv; simpa using hv) ?_
  refine am_iload_n (pc' := 1) dX7_isOfDay_0 rfl rfl rfl ?_
  refine am_if_lt (pc' := 4) (tgt := 9) dX7_isOfDay_1 rfl rfl (fun c_1 => ?_) (fun c_1 => ?_)
  · refine am_iload_n (pc' := 10) dX7_isOfDay_9 rfl rfl rfl ?_
    refine am_bipush (pc' := 12) dX7_isOfDay_10 rfl rfl (by decide) ?_
    refine am_icmp_lt (pc' := 15) (tgt := 25) dX7_isOfDay_12 rfl rfl (fun c_12 => ?_) (fun c_12 => ?_)
    · refine am_iconst (pc' := 26) dX7_isOfDay_25 rfl rfl ?_
      refine am_retz dX7_isOfDay_26 rfl (by first | exact Or.inl rfl | exact Or.inr rfl | omega) ?_
      exact ⟨by first | (exfalso; omega) | rw [if_pos (by omega)] | rw [if_neg (by omega)], rfl, rfl⟩
    · refine am_iload_n (pc' := 16) dX7_isOfDay_15 rfl rfl rfl ?_
      refine am_bipush (pc' := 18) dX7_isOfDay_16 rfl rfl (by decide) ?_
      refine am_icmp_ge (pc' := 21) (tgt := 25) dX7_isOfDay_18 rfl rfl (fun c_18 => ?_) (fun c_18 => ?_)
      · refine am_iconst (pc' := 26) dX7_isOfDay_25 rfl rfl ?_
        refine am_retz dX7_isOfDay_26 rfl (by first | exact Or.inl rfl | exact Or.inr rfl | omega) ?_
        exact ⟨by first | (exfalso; omega) | rw [if_pos (by omega)] | rw [if_neg (by omega)], rfl, rfl⟩
      · refine am_iconst (pc' := 22) dX7_isOfDay_21 rfl rfl ?_
        refine am_goto (pc' := 26) dX7_isOfDay_22 rfl ?_
        refine am_retz dX7_isOfDay_26 rfl (by first | exact Or.inl rfl | exact Or.inr rfl | omega) ?_
        exact ⟨by first | (exfalso; omega) | rw [if_pos (by omega)] | rw [if_neg (by omega)], rfl, rfl⟩
  · refine am_iload_n (pc' := 5) dX7_isOfDay_4 rfl rfl rfl ?_
    refine am_iconst (pc' := 6) dX7_isOfDay_5 rfl rfl ?_
    refine am_icmp_le (pc' := 9) (tgt := 21) dX7_isOfDay_6 rfl rfl (fun c_6 => ?_) (fun c_6 => ?_)
    · refine am_iconst (pc' := 22) dX7_isOfDay_21 rfl rfl ?_
      refine am_goto (pc' := 26) dX7_isOfDay_22 rfl ?_
      refine am_retz dX7_isOfDay_26 rfl (by first | exact Or.inl rfl | exact Or.inr rfl | omega) ?_
      exact ⟨by first | (exfalso; omega) | rw [if_pos (by omega)] | rw [if_neg (by omega)], rfl, rfl⟩
    · refine am_iload_n (pc' := 10) dX7_isOfDay_9 rfl rfl rfl ?_
      refine am_bipush (pc' := 12) dX7_isOfDay_10 rfl rfl (by decide) ?_
      refine am_icmp_lt (pc' := 15) (tgt := 25) dX7_isOfDay_12 rfl rfl (fun c_12 => ?_) (fun c_12 => ?_)
      · refine am_iconst (pc' := 26) dX7_isOfDay_25 rfl rfl ?_
        refine am_retz dX7_isOfDay_26 rfl (by first | exact Or.inl rfl | exact Or.inr rfl | omega) ?_
        exact ⟨by first | (exfalso; omega) | rw [if_pos (by omega)] | rw [if_neg (by omega)], rfl, rfl⟩
      · refine am_iload_n (pc' := 16) dX7_isOfDay_15 rfl rfl rfl ?_
        refine am_bipush (pc' := 18) dX7_isOfDay_16 rfl rfl (by decide) ?_
        refine am_icmp_ge (pc' := 21) (tgt := 25) dX7_isOfDay_18 rfl rfl (fun c_18 => ?_) (fun c_18 => ?_)
        · refine am_iconst (pc' := 26) dX7_isOfDay_25 rfl rfl ?_
          refine am_retz dX7_isOfDay_26 rfl (by first | exact Or.inl rfl | exact Or.inr rfl | omega) ?_
          exact ⟨by first | (exfalso; omega) | rw [if_pos (by omega)] | rw [if_neg (by omega)], rfl, rfl⟩
        · refine am_iconst (pc' := 22) dX7_isOfDay_21 rfl rfl ?_
          refine am_goto (pc' := 26) dX7_isOfDay_22 rfl ?_
          refine am_retz dX7_isOfDay_26 rfl (by first | exact Or.inl rfl | exact Or.inr rfl | omega) ?_
          exact ⟨by first | (exfalso; omega) | rw [if_pos (by omega)] | rw [if_neg (by omega)], rfl, rfl⟩
theorem t_isReadable {ρ h : am_H} {t v : Int} : am_CT mX7_isReadable 0 0 [am_I t, am_I v] ρ h (am_P (am_I (if (0 ≤ t ∧ t ≤ 99) ∧ 0 ≤ v ∧ v ≤ 5 then 1 else 0)) ρ h) := by
  refine am_ct (ls := [some (am_I t), some (am_I v)]) ok_X7_isReadable rfl (fun _ => Nat.le_of_ble_eq_true rfl) (fun _ => rfl) (by intro v hv; simpa using hv) ?_
  refine am_iload_n (pc' := 1) dX7_isReadable_0 rfl rfl rfl ?_
  refine am_if_lt (pc' := 4) (tgt := 24) dX7_isReadable_1 rfl rfl (fun c_1 => ?_) (fun c_1 => ?_)
  · refine am_iconst (pc' := 25) dX7_isReadable_24 rfl rfl ?_
    refine am_retz dX7_isReadable_25 rfl (by first | exact Or.inl rfl | exact Or.inr rfl | omega) ?_
    exact ⟨by first | rw [if_pos (by omega)] | rw [if_neg (by omega)], rfl, rfl⟩
  · refine am_iload_n (pc' := 5) dX7_isReadable_4 rfl rfl rfl ?_
    refine am_bipush (pc' := 7) dX7_isReadable_5 rfl rfl (by decide) ?_
    refine am_icmp_gt (pc' := 10) (tgt := 24) dX7_isReadable_7 rfl rfl (fun c_7 => ?_) (fun c_7 => ?_)
    · refine am_iconst (pc' := 25) dX7_isReadable_24 rfl rfl ?_
      refine am_retz dX7_isReadable_25 rfl (by first | exact Or.inl rfl | exact Or.inr rfl | omega) ?_
      exact ⟨by first | rw [if_pos (by omega)] | rw [if_neg (by omega)], rfl, rfl⟩
    · refine am_iload_n (pc' := 11) dX7_isReadable_10 rfl rfl rfl ?_
      refine am_if_lt (pc' := 14) (tgt := 24) dX7_isReadable_11 rfl rfl (fun c_11 => ?_) (fun c_11 => ?_)
      · refine am_iconst (pc' := 25) dX7_isReadable_24 rfl rfl ?_
        refine am_retz dX7_isReadable_25 rfl (by first | exact Or.inl rfl | exact Or.inr rfl | omega) ?_
        exact ⟨by first | rw [if_pos (by omega)] | rw [if_neg (by omega)], rfl, rfl⟩
      · refine am_iload_n (pc' := 15) dX7_isReadable_14 rfl rfl rfl ?_
        refine am_bipush (pc' := 17) dX7_isReadable_15 rfl rfl (by decide) ?_
        refine am_icmp_ge (pc' := 20) (tgt := 24) dX7_isReadable_17 rfl rfl (fun c_17 => ?_) (fun c_17 => ?_)
        · refine am_iconst (pc' := 25) dX7_isReadable_24 rfl rfl ?_
          refine am_retz dX7_isReadable_25 rfl (by first | exact Or.inl rfl | exact Or.inr rfl | omega) ?_
          exact ⟨by first | rw [if_pos (by omega)] | rw [if_neg (by omega)], rfl, rfl⟩
        · refine am_iconst (pc' := 21) dX7_isReadable_20 rfl rfl ?_
          refine am_goto (pc' := 25) dX7_isReadable_21 rfl ?_
          refine am_retz dX7_isReadable_25 rfl (by first | exact Or.inl rfl | exact Or.inr rfl | omega) ?_
          exact ⟨by first | rw [if_pos (by omega)] | rw [if_neg (by omega)], rfl, rfl⟩
theorem t_answerOfFault {ρ h : am_H} (hC : am_LC ρ) (hf : 0 ≤ h 1 9 ∧ h 1 9 ≤ 4) : am_CT mX7_answerOfFault 0 0 [am_R 1] ρ h (am_P (am_I (-10 - h 1 9)) ρ h) := by
  have hn58 := hC.1
  refine am_ct (ls := [some (am_R 1)]) ok_X7_answerOfFault rfl (fun _ => Nat.le_of_ble_eq_true rfl) (fun _ => rfl) (by intro v hv; simpa using hv) ?_
  refine am_bipush (pc' := 2) dX7_answerOfFault_0 rfl rfl (by decide) ?_
  refine am_aload_n (pc' := 3) dX7_answerOfFault_2 rfl rfl rfl ?_
  refine am_getIk (ki := 9) (pc' := 6) (k := 9) (ci := 6) rfl dX7_answerOfFault_3 rfl fl_X7_56 (by first | assumption | exact ⟨by omega, by omega, rfl⟩) rfl ?_
  refine am_isub (pc' := 7) dX7_answerOfFault_6 rfl ⟨by omega, by omega⟩ ?_
  refine am_reti dX7_answerOfFault_7 rfl ?_
  exact ⟨rfl, rfl, rfl⟩
def o_lv (t b : Int) : Int := am_w (am_w (31 * t) + b)
theorem t_leave {ρ h : am_H} {b : Int} (hC : am_LC ρ) : am_CT mX7_leave 0 0 [am_R 1, am_I b] ρ h (fun r ρ' h' => r = none ∧ ρ' = ρ ∧ h' = am_u h 1 8 (o_lv (h 1 8) b)) := by
  have hn58 := hC.1
  refine am_ct (ls := [some (am_R 1), some (am_I b)]) ok_X7_leave rfl (fun _ => Nat.le_of_ble_eq_true rfl) (fun _ => rfl) (by intro v hv; simpa using hv) ?_
  refine am_aload_n (pc' := 1) dX7_leave_0 rfl rfl rfl ?_
  refine am_bipush (pc' := 3) dX7_leave_1 rfl rfl (by decide) ?_
  refine am_aload_n (pc' := 4) dX7_leave_3 rfl rfl rfl ?_
  refine am_getIk (ki := 8) (pc' := 7) (k := 8) (ci := 6) rfl dX7_leave_4 rfl fl_X7_295 (by first | assumption | exact ⟨by omega, by omega, rfl⟩) rfl ?_
  refine am_imulw (pc' := 8) dX7_leave_7 rfl ?_
  refine am_iload_n (pc' := 9) dX7_leave_8 rfl rfl rfl ?_
  refine am_iaddw (pc' := 10) dX7_leave_9 rfl ?_
  refine am_putIk (ki := 8) (pc' := 13) (k := 8) (ci := 6) rfl dX7_leave_10 rfl fl_X7_295 (by first | assumption | exact ⟨by omega, by omega, rfl⟩) rfl (fun _ _ _ e => by cases e; rfl) ?_
  refine am_retv dX7_leave_13 rfl ?_
  exact ⟨rfl, rfl, rfl⟩
def o_ofPlace (P B : Int) (kd f : Int → Int) (p w : Int) : Int := if 0 ≤ p ∧ p < P then (if w = 0 then kd p else if w = 1 then f p else if w = 2 then mt_st P B kd f p else -2) else -1
theorem t_ofPlace {ρ h : am_H} {p w : Int} (hC : am_LC ρ) (hG : cl_R h) : am_CT mX7_ofPlace 0 0 [am_R 1, am_I p, am_I w] ρ h (am_P (am_I (o_ofPlace (h 11 1) (h 11 0) (h 12) (h 13) p w)) ρ h) := by
  have hn58 := hC.1
  have hR := am_RA11 hC
  have hP5 := cl_P5 hG
  have e1 := am_lc hC 1 1 11 (by decide)
  have e2 := am_lc hC 11 2 12 (by decide)
  have e3 := am_lc hC 11 3 13 (by decide)
  have e4 := am_lc hC 12 (-1) 5 (by decide)
  have e5 := am_lc hC 13 (-1) 5 (by decide)
  refine am_ct (ls := [some (am_R 1), some (am_I p), some (am_I w)]) ok_X7_ofPlace rfl (fun _ => Nat.le_of_ble_eq_true rfl) (fun _ => rfl) (by intro v hv; simpa using hv) ?_
  unfold o_ofPlace
  refine am_aload_n (pc' := 1) dX7_ofPlace_0 rfl rfl rfl ?_
  refine am_getRk (ki := 1) (pc' := 4) (k := 1) (ci := 6) rfl dX7_ofPlace_1 rfl fl_X7_21 (by first | assumption | exact ⟨by omega, by omega, rfl⟩) rfl (by assumption) (by omega) ?_
  refine am_iload_n (pc' := 5) dX7_ofPlace_4 rfl rfl rfl ?_
  refine am_callVp (pc' := 8) (as := [_]) (ci := 3)  rfl dX7_ofPlace_5 rfl ok_X3_has ml_X7_98 im_X3_has se_X3_has rfl (Nat.le_of_ble_eq_true rfl) rfl (Nat.le_of_ble_eq_true rfl) (by first | assumption | exact ⟨by omega, by omega, rfl⟩) (t_has hR) ?_
  refine am_if_ne (pc' := 11) (tgt := 13) dX7_ofPlace_8 rfl rfl (fun c_8 => ?_) (fun c_8 => ?_)
  · simp only [am_z0, am_z1, ne_eq] at c_8
    refine am_iload_n (pc' := 14) dX7_ofPlace_13 rfl rfl rfl ?_
    refine am_case (0) (fun c_14_0 => ?_) (fun c_14_0 => ?_)
    · refine am_tabIn (pc' := 40) (off := 26) dX7_ofPlace_14 (by decide) (by decide) rfl rfl ?_
      refine am_aload_n (pc' := 41) dX7_ofPlace_40 rfl rfl rfl ?_
      refine am_getRk (ki := 1) (pc' := 44) (k := 1) (ci := 6) rfl dX7_ofPlace_41 rfl fl_X7_21 (by first | assumption | exact ⟨by omega, by omega, rfl⟩) rfl (by assumption) (by omega) ?_
      refine am_getRk (ki := 2) (pc' := 47) (k := 2) (ci := 3) rfl dX7_ofPlace_44 rfl fl_X7_101 (by first | assumption | exact ⟨by omega, by omega, rfl⟩) rfl (by assumption) (by omega) ?_
      refine am_iload_n (pc' := 48) dX7_ofPlace_47 rfl rfl rfl ?_
      refine am_iaload (pc' := 49) dX7_ofPlace_48 rfl (by first | assumption | exact ⟨by omega, by omega, rfl⟩) (by omega) (by omega) ?_
      refine am_reti dX7_ofPlace_49 rfl ?_
      exact ⟨by rw [if_pos (by omega), if_pos (by omega)], rfl, rfl⟩
    refine am_case (1) (fun c_14_1 => ?_) (fun c_14_1 => ?_)
    · refine am_tabIn (pc' := 50) (off := 36) dX7_ofPlace_14 (by decide) (by decide) rfl rfl ?_
      refine am_aload_n (pc' := 51) dX7_ofPlace_50 rfl rfl rfl ?_
      refine am_getRk (ki := 1) (pc' := 54) (k := 1) (ci := 6) rfl dX7_ofPlace_51 rfl fl_X7_21 (by first | assumption | exact ⟨by omega, by omega, rfl⟩) rfl (by assumption) (by omega) ?_
      refine am_getRk (ki := 3) (pc' := 57) (k := 3) (ci := 3) rfl dX7_ofPlace_54 rfl fl_X7_105 (by first | assumption | exact ⟨by omega, by omega, rfl⟩) rfl (by assumption) (by omega) ?_
      refine am_iload_n (pc' := 58) dX7_ofPlace_57 rfl rfl rfl ?_
      refine am_iaload (pc' := 59) dX7_ofPlace_58 rfl (by first | assumption | exact ⟨by omega, by omega, rfl⟩) (by omega) (by omega) ?_
      refine am_reti dX7_ofPlace_59 rfl ?_
      exact ⟨by rw [if_pos (by omega), if_neg (by omega), if_pos (by omega)], rfl, rfl⟩
    refine am_case (2) (fun c_14_2 => ?_) (fun c_14_2 => ?_)
    · refine am_tabIn (pc' := 60) (off := 46) dX7_ofPlace_14 (by decide) (by decide) rfl rfl ?_
      refine am_aload_n (pc' := 61) dX7_ofPlace_60 rfl rfl rfl ?_
      refine am_getRk (ki := 1) (pc' := 64) (k := 1) (ci := 6) rfl dX7_ofPlace_61 rfl fl_X7_21 (by first | assumption | exact ⟨by omega, by omega, rfl⟩) rfl (by assumption) (by omega) ?_
      refine am_iload_n (pc' := 65) dX7_ofPlace_64 rfl rfl rfl ?_
      refine am_callVp (pc' := 68) (as := [_]) (ci := 3)  rfl dX7_ofPlace_65 rfl ok_X3_stepped ml_X7_108 im_X3_stepped se_X3_stepped rfl (Nat.le_of_ble_eq_true rfl) rfl (Nat.le_of_ble_eq_true rfl) (by first | assumption | exact ⟨by omega, by omega, rfl⟩) (t_stepped hR (cl_RO hG (by omega)).1 (by omega) (by omega)) ?_
      refine am_reti dX7_ofPlace_68 rfl ?_
      exact ⟨by rw [if_pos (by omega), if_neg (by omega), if_neg (by omega), if_pos (by omega)]; rfl, rfl, rfl⟩
    refine am_tabOut (pc' := 69) dX7_ofPlace_14 rfl (by omega) ?_
    refine am_bipush (pc' := 71) dX7_ofPlace_69 rfl rfl (by decide) ?_
    refine am_reti dX7_ofPlace_71 rfl ?_
    exact ⟨by rw [if_pos (by omega), if_neg (by omega), if_neg (by omega), if_neg (by omega)], rfl, rfl⟩
  · simp only [am_z0, am_z1, ne_eq] at c_8
    refine am_iconst (pc' := 12) dX7_ofPlace_11 rfl rfl ?_
    refine am_reti dX7_ofPlace_12 rfl ?_
    exact ⟨by rw [if_neg (by omega)], rfl, rfl⟩
def o_write (P B : Int) (f : Int → Int) (p v : Int) : Int := if 0 ≤ p ∧ p < P then (if 0 ≤ v ∧ v < B then f p else -2) else -1
theorem t_write {ρ h : am_H} {p v : Int} (hC : am_LC ρ) (hG : cl_R h) : am_CT mX7_write 0 0 [am_R 1, am_I p, am_I v] ρ h (fun r ρ' h' => r = some (am_I (o_write (h 11 1) (h 11 0) (h 13) p v)) ∧ ρ' = ρ ∧ h' = if (0 ≤ p ∧ p < h 11 1) ∧ 0 ≤ v ∧ v < h 11 0 then am_u h 13 p v else h) := by
  have hn58 := hC.1
  have hR := am_RA11 hC
  have hP5 := cl_P5 hG
  have e1 := am_lc hC 1 1 11 (by decide)
  have e3 := am_lc hC 11 3 13 (by decide)
  have e5 := am_lc hC 13 (-1) 5 (by decide)
  refine am_ct (ls := [some (am_R 1), some (am_I p), some (am_I v), none]) ok_X7_write rfl (fun _ => Nat.le_of_ble_eq_true rfl) (fun _ => rfl) (by intro v hv; simpa using hv) ?_
  unfold o_write
  refine am_aload_n (pc' := 1) dX7_write_0 rfl rfl rfl ?_
  refine am_getRk (ki := 1) (pc' := 4) (k := 1) (ci := 6) rfl dX7_write_1 rfl fl_X7_21 (by first | assumption | exact ⟨by omega, by omega, rfl⟩) rfl (by assumption) (by omega) ?_
  refine am_iload_n (pc' := 5) dX7_write_4 rfl rfl rfl ?_
  refine am_callVp (pc' := 8) (as := [_]) (ci := 3)  rfl dX7_write_5 rfl ok_X3_has ml_X7_98 im_X3_has se_X3_has rfl (Nat.le_of_ble_eq_true rfl) rfl (Nat.le_of_ble_eq_true rfl) (by first | assumption | exact ⟨by omega, by omega, rfl⟩) (t_has hR) ?_
  refine am_if_ne (pc' := 11) (tgt := 13) dX7_write_8 rfl rfl (fun c_8 => ?_) (fun c_8 => ?_)
  · simp only [am_z0, am_z1, ne_eq] at c_8
    refine am_aload_n (pc' := 14) dX7_write_13 rfl rfl rfl ?_
    refine am_getRk (ki := 1) (pc' := 17) (k := 1) (ci := 6) rfl dX7_write_14 rfl fl_X7_21 (by first | assumption | exact ⟨by omega, by omega, rfl⟩) rfl (by assumption) (by omega) ?_
    refine am_iload_n (pc' := 18) dX7_write_17 rfl rfl rfl ?_
    refine am_callVp (pc' := 21) (as := [_]) (ci := 3)  rfl dX7_write_18 rfl ok_X3_isNumber ml_X7_112 im_X3_isNumber se_X3_isNumber rfl (Nat.le_of_ble_eq_true rfl) rfl (Nat.le_of_ble_eq_true rfl) (by first | assumption | exact ⟨by omega, by omega, rfl⟩) (t_isNumber hR) ?_
    refine am_if_ne (pc' := 24) (tgt := 27) dX7_write_21 rfl rfl (fun c_21 => ?_) (fun c_21 => ?_)
    · simp only [am_z0, am_z1, ne_eq] at c_21
      refine am_aload_n (pc' := 28) dX7_write_27 rfl rfl rfl ?_
      refine am_getRk (ki := 1) (pc' := 31) (k := 1) (ci := 6) rfl dX7_write_28 rfl fl_X7_21 (by first | assumption | exact ⟨by omega, by omega, rfl⟩) rfl (by assumption) (by omega) ?_
      refine am_getRk (ki := 3) (pc' := 34) (k := 3) (ci := 3) rfl dX7_write_31 rfl fl_X7_105 (by first | assumption | exact ⟨by omega, by omega, rfl⟩) rfl (by assumption) (by omega) ?_
      refine am_iload_n (pc' := 35) dX7_write_34 rfl rfl rfl ?_
      refine am_iaload (pc' := 36) dX7_write_35 rfl (by first | assumption | exact ⟨by omega, by omega, rfl⟩) (by omega) (by omega) ?_
      refine am_istore_n (pc' := 37) (ls' := [_, _, _, _]) dX7_write_36 rfl rfl (Nat.le_of_ble_eq_true rfl) rfl rfl ?_
      refine am_aload_n (pc' := 38) dX7_write_37 rfl rfl rfl ?_
      refine am_getRk (ki := 1) (pc' := 41) (k := 1) (ci := 6) rfl dX7_write_38 rfl fl_X7_21 (by first | assumption | exact ⟨by omega, by omega, rfl⟩) rfl (by assumption) (by omega) ?_
      refine am_getRk (ki := 3) (pc' := 44) (k := 3) (ci := 3) rfl dX7_write_41 rfl fl_X7_105 (by first | assumption | exact ⟨by omega, by omega, rfl⟩) rfl (by assumption) (by omega) ?_
      refine am_iload_n (pc' := 45) dX7_write_44 rfl rfl rfl ?_
      refine am_iload_n (pc' := 46) dX7_write_45 rfl rfl rfl ?_
      refine am_iastore (pc' := 47) dX7_write_46 rfl (by first | assumption | exact ⟨by omega, by omega, rfl⟩) (by omega) (by omega) ?_
      refine am_iload_n (pc' := 48) dX7_write_47 rfl rfl rfl ?_
      refine am_reti dX7_write_48 rfl ?_
      exact ⟨by rw [if_pos (by omega), if_pos (by omega)], rfl, by rw [if_pos (by omega)]⟩
    · simp only [am_z0, am_z1, ne_eq] at c_21
      refine am_bipush (pc' := 26) dX7_write_24 rfl rfl (by decide) ?_
      refine am_reti dX7_write_26 rfl ?_
      exact ⟨by rw [if_pos (by omega), if_neg (by omega)], rfl, by rw [if_neg (by omega)]⟩
  · simp only [am_z0, am_z1, ne_eq] at c_8
    refine am_iconst (pc' := 12) dX7_write_11 rfl rfl ?_
    refine am_reti dX7_write_12 rfl ?_
    exact ⟨by rw [if_neg (by omega)], rfl, by rw [if_neg (by omega)]⟩
theorem t_steps {ρ h : am_H} {n : Int} (hC : am_LC ρ) (hG : cl_R h) : am_CT mX7_steps 0 0 [am_R 1, am_I n] ρ h (fun r ρ' h' => ρ' = ρ ∧ ((¬ (1 ≤ n ∧ n ≤ 99) ∧ r = some (am_I (-2)) ∧ h' = h) ∨ ((1 ≤ n ∧ n ≤ 99) ∧ h 11 1 = 0 ∧ r = some (am_I (-3)) ∧ h' = h) ∨
    ((1 ≤ n ∧ n ≤ 99) ∧ h 11 1 ≠ 0 ∧ am_fr [1, 13, 14] h h' ∧ h' 1 7 = am_w (h 1 7 + n) ∧ h' 1 8 = h 1 8 ∧ h' 1 9 = h 1 9 ∧ mt_eq (h 11 1) (h' 13) (mt_it (h 11 1) (h 11 0) (h 12) n.toNat (h 13)) ∧ r = some (am_I (mt_sum (fun q => if h' 13 q = 0 then 1 else 0) (h 11 1).toNat))))) := by
  have hn58 := hC.1
  have hR := am_RA11 hC
  have hP5 := cl_P5 hG
  have e1 := am_lc hC 1 1 11 (by decide)
  refine am_ct (ls := [some (am_R 1), some (am_I n)]) ok_X7_steps rfl (fun _ => Nat.le_of_ble_eq_true rfl) (fun _ => rfl) (by intro v hv; simpa using hv) ?_
  refine am_iload_n (pc' := 1) dX7_steps_0 rfl rfl rfl ?_
  refine am_iconst (pc' := 2) dX7_steps_1 rfl rfl ?_
  refine am_icmp_lt (pc' := 5) (tgt := 11) dX7_steps_2 rfl rfl (fun c_2 => ?_) (fun c_2 => ?_)
  · refine am_bipush (pc' := 13) dX7_steps_11 rfl rfl (by decide) ?_
    refine am_reti dX7_steps_13 rfl ?_
    exact ⟨rfl, Or.inl ⟨by omega, rfl, rfl⟩⟩
  · refine am_iload_n (pc' := 6) dX7_steps_5 rfl rfl rfl ?_
    refine am_bipush (pc' := 8) dX7_steps_6 rfl rfl (by decide) ?_
    refine am_icmp_le (pc' := 11) (tgt := 14) dX7_steps_8 rfl rfl (fun c_8 => ?_) (fun c_8 => ?_)
    · refine am_aload_n (pc' := 15) dX7_steps_14 rfl rfl rfl ?_
      refine am_getRk (ki := 1) (pc' := 18) (k := 1) (ci := 6) rfl dX7_steps_15 rfl fl_X7_21 (by first | assumption | exact ⟨by omega, by omega, rfl⟩) rfl (by assumption) (by omega) ?_
      refine am_callVp (pc' := 21) (as := []) (ci := 3)  rfl dX7_steps_18 rfl ok_X3_isNone ml_X7_115 im_X3_isNone se_X3_isNone rfl (Nat.le_of_ble_eq_true rfl) rfl (Nat.le_of_ble_eq_true rfl) (by first | assumption | exact ⟨by omega, by omega, rfl⟩) (t_isNone hR) ?_
      refine am_if_eq (pc' := 24) (tgt := 27) dX7_steps_21 rfl rfl (fun c_21 => ?_) (fun c_21 => ?_)
      · simp only [am_z0, am_z1, ne_eq] at c_21
        refine am_aload_n (pc' := 28) dX7_steps_27 rfl rfl rfl ?_
        refine am_getRk (ki := 1) (pc' := 31) (k := 1) (ci := 6) rfl dX7_steps_28 rfl fl_X7_21 (by first | assumption | exact ⟨by omega, by omega, rfl⟩) rfl (by assumption) (by omega) ?_
        refine am_iload_n (pc' := 32) dX7_steps_31 rfl rfl rfl ?_
        refine am_callV0 (pc' := 35) (as := [_]) (ci := 3)  rfl dX7_steps_32 rfl ok_X3_go ml_X7_119 im_X3_go se_X3_go rfl (Nat.le_of_ble_eq_true rfl) rfl (Nat.le_of_ble_eq_true rfl) (by first | assumption | exact ⟨by omega, by omega, rfl⟩) (t_go hR (cl_RO hG (by omega)).1 (by omega)) (fun r_32 ρ_32 h_32 q_32 g_32 e_32 => ?_)
        obtain ⟨rfl, rfl, q1, q2⟩ := q_32
        have g1 : h_32 11 1 = h 11 1 := q1 11 1 (by simp <;> omega)
        refine am_aload_n (pc' := 36) dX7_steps_35 rfl rfl rfl ?_
        first | refine am_dupR (pc' := 37) dX7_steps_36 rfl ?_ | refine am_dupI (pc' := 37) dX7_steps_36 rfl ?_
        refine am_getIk (ki := 7) (pc' := 40) (k := 7) (ci := 6) rfl dX7_steps_37 rfl fl_X7_85 (by first | assumption | exact ⟨by omega, by omega, rfl⟩) rfl ?_
        refine am_iload_n (pc' := 41) dX7_steps_40 rfl rfl rfl ?_
        refine am_iaddw (pc' := 42) dX7_steps_41 rfl ?_
        refine am_putIk (ki := 7) (pc' := 45) (k := 7) (ci := 6) rfl dX7_steps_42 rfl fl_X7_85 (by first | assumption | exact ⟨by omega, by omega, rfl⟩) rfl (fun _ _ _ e => by cases e; rfl) ?_
        refine am_aload_n (pc' := 46) dX7_steps_45 rfl rfl rfl ?_
        refine am_getRk (ki := 1) (pc' := 49) (k := 1) (ci := 6) rfl dX7_steps_46 rfl fl_X7_21 (by first | assumption | exact ⟨by omega, by omega, rfl⟩) rfl (by assumption) (by omega) ?_
        refine am_callVp (pc' := 52) (as := []) (ci := 3)  rfl dX7_steps_49 rfl ok_X3_zeros ml_X7_123 im_X3_zeros se_X3_zeros rfl (Nat.le_of_ble_eq_true rfl) rfl (Nat.le_of_ble_eq_true rfl) (by first | assumption | exact ⟨by omega, by omega, rfl⟩) (t_zeros (r := 11) hR (by rw [am_u_n (by omega)]; omega)) ?_
        refine am_reti dX7_steps_52 rfl ?_
        refine ⟨rfl, Or.inr (Or.inr ⟨by omega, by omega, am_fr_u (am_fr_sub q1 (by intro x hx; simp at hx ⊢; omega)) (by simp <;> omega), ?_, ?_, ?_, fun p p0 p1 => ?_, ?_⟩)⟩
        · rw [am_u_s, q1 1 7 (by simp <;> omega)]
        · rw [am_u_n (by omega), q1 1 8 (by simp <;> omega)]
        · rw [am_u_n (by omega), q1 1 9 (by simp <;> omega)]
        · rw [am_u_n (by omega)]; exact q2 p p0 p1
        · rw [am_u_n (by omega), g1]; rfl
      · simp only [am_z0, am_z1, ne_eq] at c_21
        refine am_bipush (pc' := 26) dX7_steps_24 rfl rfl (by decide) ?_
        refine am_reti dX7_steps_26 rfl ?_
        exact ⟨rfl, Or.inr (Or.inl ⟨by omega, by omega, rfl, rfl⟩)⟩
    · refine am_bipush (pc' := 13) dX7_steps_11 rfl rfl (by decide) ?_
      refine am_reti dX7_steps_13 rfl ?_
      exact ⟨rfl, Or.inl ⟨by omega, rfl, rfl⟩⟩
theorem t_back {ρ h : am_H} {k : Int} (hC : am_LC ρ) (hO : 0 ≤ h 33 3 ∧ h 33 3 ≤ 8) : am_CT mX7_back 0 0 [am_R 1, am_I k] ρ h (fun r ρ' h' => ρ' = ρ ∧ ((¬ (0 ≤ k ∧ k ≤ h 33 3) ∧ r = some (am_I (-2)) ∧ h' = h) ∨ ((0 ≤ k ∧ k ≤ h 33 3) ∧ r = some (am_I (h 33 3 - k)) ∧ h' = am_u h 33 3 (h 33 3 - k)))) := by
  have hn58 := hC.1
  have e1 := am_lc hC 1 5 33 (by decide)
  refine am_ct (ls := [some (am_R 1), some (am_I k)]) ok_X7_back rfl (fun _ => Nat.le_of_ble_eq_true rfl) (fun _ => rfl) (by intro v hv; simpa using hv) ?_
  refine am_iload_n (pc' := 1) dX7_back_0 rfl rfl rfl ?_
  refine am_if_lt (pc' := 4) (tgt := 15) dX7_back_1 rfl rfl (fun c_1 => ?_) (fun c_1 => ?_)
  · refine am_bipush (pc' := 17) dX7_back_15 rfl rfl (by decide) ?_
    refine am_reti dX7_back_17 rfl ?_
    first | exact ⟨rfl, Or.inl ⟨by omega, rfl, rfl⟩⟩ | exact ⟨rfl, Or.inr ⟨by omega, by rw [am_u_s], rfl⟩⟩
  · refine am_iload_n (pc' := 5) dX7_back_4 rfl rfl rfl ?_
    refine am_aload_n (pc' := 6) dX7_back_5 rfl rfl rfl ?_
    refine am_getRk (ki := 5) (pc' := 9) (k := 5) (ci := 6) rfl dX7_back_6 rfl fl_X7_45 (by first | assumption | exact ⟨by omega, by omega, rfl⟩) rfl (by assumption) (by omega) ?_
    refine am_getIk (ki := 3) (pc' := 12) (k := 3) (ci := 2) rfl dX7_back_9 rfl fl_X7_88 (by first | assumption | exact ⟨by omega, by omega, rfl⟩) rfl ?_
    refine am_icmp_le (pc' := 15) (tgt := 18) dX7_back_12 rfl rfl (fun c_12 => ?_) (fun c_12 => ?_)
    · refine am_aload_n (pc' := 19) dX7_back_18 rfl rfl rfl ?_
      refine am_getRk (ki := 5) (pc' := 22) (k := 5) (ci := 6) rfl dX7_back_19 rfl fl_X7_45 (by first | assumption | exact ⟨by omega, by omega, rfl⟩) rfl (by assumption) (by omega) ?_
      first | refine am_dupR (pc' := 23) dX7_back_22 rfl ?_ | refine am_dupI (pc' := 23) dX7_back_22 rfl ?_
      refine am_getIk (ki := 3) (pc' := 26) (k := 3) (ci := 2) rfl dX7_back_23 rfl fl_X7_88 (by first | assumption | exact ⟨by omega, by omega, rfl⟩) rfl ?_
      refine am_iload_n (pc' := 27) dX7_back_26 rfl rfl rfl ?_
      refine am_isub (pc' := 28) dX7_back_27 rfl ⟨by omega, by omega⟩ ?_
      refine am_putIk (ki := 3) (pc' := 31) (k := 3) (ci := 2) rfl dX7_back_28 rfl fl_X7_88 (by first | assumption | exact ⟨by omega, by omega, rfl⟩) rfl (fun _ _ _ e => by cases e; rfl) ?_
      refine am_aload_n (pc' := 32) dX7_back_31 rfl rfl rfl ?_
      refine am_getRk (ki := 5) (pc' := 35) (k := 5) (ci := 6) rfl dX7_back_32 rfl fl_X7_45 (by first | assumption | exact ⟨by omega, by omega, rfl⟩) rfl (by assumption) (by omega) ?_
      refine am_getIk (ki := 3) (pc' := 38) (k := 3) (ci := 2) rfl dX7_back_35 rfl fl_X7_88 (by first | assumption | exact ⟨by omega, by omega, rfl⟩) rfl ?_
      refine am_reti dX7_back_38 rfl ?_
      first | exact ⟨rfl, Or.inl ⟨by omega, rfl, rfl⟩⟩ | exact ⟨rfl, Or.inr ⟨by omega, by rw [am_u_s], rfl⟩⟩
    · refine am_bipush (pc' := 17) dX7_back_15 rfl rfl (by decide) ?_
      refine am_reti dX7_back_17 rfl ?_
      first | exact ⟨rfl, Or.inl ⟨by omega, rfl, rfl⟩⟩ | exact ⟨rfl, Or.inr ⟨by omega, by rw [am_u_s], rfl⟩⟩
theorem t_reading {ρ h : am_H} {t p v : Int} (hC : am_LC ρ) (hO : 0 ≤ h 33 3 ∧ h 33 3 ≤ 8) : am_CT mX7_reading 0 0 [am_R 1, am_I t, am_I p, am_I v] ρ h (fun r ρ' h' => ρ' = ρ ∧ ((¬ (0 ≤ p ∧ p < h 11 1) ∧ r = some (am_I (-1)) ∧ h' = h) ∨ ((0 ≤ p ∧ p < h 11 1) ∧ ¬ ((0 ≤ t ∧ t ≤ 99) ∧ 0 ≤ v ∧ v ≤ 5) ∧ r = some (am_I (-2)) ∧ h' = h) ∨ ((0 ≤ p ∧ p < h 11 1) ∧ ((0 ≤ t ∧ t ≤ 99) ∧ 0 ≤ v ∧ v ≤ 5) ∧
    ((h 33 3 = 8 ∧ r = some (am_I (-4)) ∧ h' = h) ∨ (h 33 3 < 8 ∧ r = some (am_I (h 33 3)) ∧ am_fr [33, 34, 35, 36] h h' ∧ h' 33 3 = h 33 3 + 1 ∧ h' 34 (h 33 3) = t ∧ h' 35 (h 33 3) = p ∧ h' 36 (h 33 3) = v ∧ ∀ k, 0 ≤ k → k < h 33 3 → h' 34 k = h 34 k ∧ h' 35 k = h 35 k ∧ h' 36 k = h 36 k))))) := by
  have hn58 := hC.1
  have hR := am_RA11 hC
  have e1 := am_lc hC 1 1 11 (by decide)
  have e2 := am_lc hC 1 5 33 (by decide)
  refine am_ct (ls := [some (am_R 1), some (am_I t), some (am_I p), some (am_I v)]) ok_X7_reading rfl (fun _ => Nat.le_of_ble_eq_true rfl) (fun _ => rfl) (by intro v hv; simpa using hv) ?_
  refine am_aload_n (pc' := 1) dX7_reading_0 rfl rfl rfl ?_
  refine am_getRk (ki := 1) (pc' := 4) (k := 1) (ci := 6) rfl dX7_reading_1 rfl fl_X7_21 (by first | assumption | exact ⟨by omega, by omega, rfl⟩) rfl (by assumption) (by omega) ?_
  refine am_iload_n (pc' := 5) dX7_reading_4 rfl rfl rfl ?_
  refine am_callVp (pc' := 8) (as := [_]) (ci := 3)  rfl dX7_reading_5 rfl ok_X3_has ml_X7_98 im_X3_has se_X3_has rfl (Nat.le_of_ble_eq_true rfl) rfl (Nat.le_of_ble_eq_true rfl) (by first | assumption | exact ⟨by omega, by omega, rfl⟩) (t_has hR) ?_
  refine am_if_ne (pc' := 11) (tgt := 13) dX7_reading_8 rfl rfl (fun c_8 => ?_) (fun c_8 => ?_)
  · simp only [am_z0, am_z1, ne_eq] at c_8
    refine am_iload_n (pc' := 14) dX7_reading_13 rfl rfl rfl ?_
    refine am_iload_n (pc' := 15) dX7_reading_14 rfl rfl rfl ?_
    refine am_callSp (pc' := 18) (as := [_, _])  rfl dX7_reading_15 rfl ok_X7_isReadable ml_X7_224 sm_X7_isReadable (Nat.le_of_ble_eq_true rfl) rfl (Nat.le_of_ble_eq_true rfl) (t_isReadable) ?_
    refine am_if_ne (pc' := 21) (tgt := 24) dX7_reading_18 rfl rfl (fun c_18 => ?_) (fun c_18 => ?_)
    · simp only [am_z0, am_z1, ne_eq] at c_18
      refine am_aload_n (pc' := 25) dX7_reading_24 rfl rfl rfl ?_
      refine am_getRk (ki := 5) (pc' := 28) (k := 5) (ci := 6) rfl dX7_reading_25 rfl fl_X7_45 (by first | assumption | exact ⟨by omega, by omega, rfl⟩) rfl (by assumption) (by omega) ?_
      refine am_iload_n (pc' := 29) dX7_reading_28 rfl rfl rfl ?_
      refine am_iload_n (pc' := 30) dX7_reading_29 rfl rfl rfl ?_
      refine am_iload_n (pc' := 31) dX7_reading_30 rfl rfl rfl ?_
      refine am_callV0 (pc' := 34) (as := [_, _, _]) (ci := 2)  rfl dX7_reading_31 rfl ok_X2_keep ml_X7_228 im_X2_keep se_X2_keep rfl (Nat.le_of_ble_eq_true rfl) rfl (Nat.le_of_ble_eq_true rfl) (by first | assumption | exact ⟨by omega, by omega, rfl⟩) (t_keep hC hO) (fun r_31 ρ_31 h_31 q_31 g_31 e_31 => ?_)
      obtain ⟨rfl, ⟨a1, rfl, rfl⟩ | ⟨a1, rfl, a2⟩⟩ := q_31
      · refine am_reti dX7_reading_34 rfl ?_
        first | exact ⟨rfl, Or.inr (Or.inr ⟨by omega, by omega, Or.inr ⟨a1, rfl, a2⟩⟩)⟩ | exact ⟨rfl, Or.inr (Or.inr ⟨by omega, by omega, Or.inl ⟨a1, rfl, rfl⟩⟩)⟩ | fail
      · refine am_reti dX7_reading_34 rfl ?_
        first | exact ⟨rfl, Or.inr (Or.inr ⟨by omega, by omega, Or.inr ⟨a1, rfl, a2⟩⟩)⟩ | exact ⟨rfl, Or.inr (Or.inr ⟨by omega, by omega, Or.inl ⟨a1, rfl, rfl⟩⟩)⟩ | fail
    · simp only [am_z0, am_z1, ne_eq] at c_18
      refine am_bipush (pc' := 23) dX7_reading_21 rfl rfl (by decide) ?_
      refine am_reti dX7_reading_23 rfl ?_
      exact ⟨rfl, Or.inr (Or.inl ⟨by omega, by omega, rfl, rfl⟩)⟩
  · simp only [am_z0, am_z1, ne_eq] at c_8
    refine am_iconst (pc' := 12) dX7_reading_11 rfl rfl ?_
    refine am_reti dX7_reading_12 rfl ?_
    exact ⟨rfl, Or.inl ⟨by omega, rfl, rfl⟩⟩
theorem t_tellPlain {ρ h : am_H} {p : Int} (hC : am_LC ρ) (hp : 0 ≤ p ∧ p < 5) : am_CT mX7_tellPlain 0 0 [am_R 1, am_I p] ρ h (fun r ρ' h' => r = some (am_I (h 13 p)) ∧ ρ' = ρ ∧ h' = am_u h 1 8 (o_lv (h 1 8) 1)) := by
  have hn58 := hC.1
  have e1 := am_lc hC 1 1 11 (by decide)
  have e3 := am_lc hC 11 3 13 (by decide)
  have e5 := am_lc hC 13 (-1) 5 (by decide)
  refine am_ct (ls := [some (am_R 1), some (am_I p)]) ok_X7_tellPlain rfl (fun _ => Nat.le_of_ble_eq_true rfl) (fun _ => rfl) (by intro v hv; simpa using hv) ?_
  refine am_aload_n (pc' := 1) dX7_tellPlain_0 rfl rfl rfl ?_
  refine am_iconst (pc' := 2) dX7_tellPlain_1 rfl rfl ?_
  refine am_callV0 (pc' := 5) (as := [_]) (ci := 6)  rfl dX7_tellPlain_2 rfl ok_X7_leave ml_X7_292 im_X7_leave se_X7_leave rfl (Nat.le_of_ble_eq_true rfl) rfl (Nat.le_of_ble_eq_true rfl) (by first | assumption | exact ⟨by omega, by omega, rfl⟩) (t_leave hC) (fun r_2 ρ_2 h_2 q_2 g_2 e_2 => ?_)
  obtain ⟨rfl, rfl, rfl⟩ := q_2
  refine am_aload_n (pc' := 6) dX7_tellPlain_5 rfl rfl rfl ?_
  refine am_getRk (ki := 1) (pc' := 9) (k := 1) (ci := 6) rfl dX7_tellPlain_6 rfl fl_X7_21 (by first | assumption | exact ⟨by omega, by omega, rfl⟩) rfl (by assumption) (by omega) ?_
  refine am_getRk (ki := 3) (pc' := 12) (k := 3) (ci := 3) rfl dX7_tellPlain_9 rfl fl_X7_105 (by first | assumption | exact ⟨by omega, by omega, rfl⟩) rfl (by assumption) (by omega) ?_
  refine am_iload_n (pc' := 13) dX7_tellPlain_12 rfl rfl rfl ?_
  refine am_iaload (pc' := 14) dX7_tellPlain_13 rfl (by first | assumption | exact ⟨by omega, by omega, rfl⟩) (by omega) (by omega) ?_
  refine am_reti dX7_tellPlain_14 rfl ?_
  exact ⟨by rw [am_u_n (by omega)], rfl, rfl⟩
theorem am_uu {h : am_H} {x k v w : Int} : am_u (am_u h x k v) x k w = am_u h x k w := by
  funext y j
  unfold am_u
  split <;> rfl
theorem t_tellFar {ρ h : am_H} {p : Int} (hC : am_LC ρ) (hp : 0 ≤ p ∧ p < 5) (hv : 0 ≤ h 13 p ∧ h 13 p < 6) : am_CT mX7_tellFar 0 0 [am_R 1, am_I p] ρ h (fun r ρ' h' => r = some (am_I (h 13 p + 100)) ∧ ρ' = ρ ∧ h' = am_u h 1 8 (o_lv (o_lv (h 1 8) 2) 1)) := by
  have hn58 := hC.1
  have e1 := am_lc hC 1 1 11 (by decide)
  refine am_ct (ls := [some (am_R 1), some (am_I p)]) ok_X7_tellFar rfl (fun _ => Nat.le_of_ble_eq_true rfl) (fun _ => rfl) (by intro v hv; simpa using hv) ?_
  refine am_aload_n (pc' := 1) dX7_tellFar_0 rfl rfl rfl ?_
  refine am_iconst (pc' := 2) dX7_tellFar_1 rfl rfl ?_
  refine am_callV0 (pc' := 5) (as := [_]) (ci := 6)  rfl dX7_tellFar_2 rfl ok_X7_leave ml_X7_292 im_X7_leave se_X7_leave rfl (Nat.le_of_ble_eq_true rfl) rfl (Nat.le_of_ble_eq_true rfl) (by first | assumption | exact ⟨by omega, by omega, rfl⟩) (t_leave hC) (fun r_2 ρ_2 h_2 q_2 g_2 e_2 => ?_)
  obtain ⟨rfl, rfl, rfl⟩ := q_2
  refine am_aload_n (pc' := 6) dX7_tellFar_5 rfl rfl rfl ?_
  refine am_iload_n (pc' := 7) dX7_tellFar_6 rfl rfl rfl ?_
  refine am_callV0 (pc' := 10) (as := [_]) (ci := 6)  rfl dX7_tellFar_7 rfl ok_X7_tellPlain ml_X7_283 im_X7_tellPlain se_X7_tellPlain rfl (Nat.le_of_ble_eq_true rfl) rfl (Nat.le_of_ble_eq_true rfl) (by first | assumption | exact ⟨by omega, by omega, rfl⟩) (t_tellPlain hC hp) (fun r_7 ρ_7 h_7 q_7 g_7 e_7 => ?_)
  obtain ⟨rfl, rfl, rfl⟩ := q_7
  rw [am_uu, am_u_s, am_u_n (by omega)]
  refine am_bipush (pc' := 12) dX7_tellFar_10 rfl rfl (by decide) ?_
  refine am_iadd (pc' := 13) dX7_tellFar_12 rfl ⟨by omega, by omega⟩ ?_
  refine am_reti dX7_tellFar_13 rfl ?_
  exact ⟨rfl, rfl, rfl⟩
theorem t_tellMixed {ρ h : am_H} {p : Int} (hC : am_LC ρ) (hp : 0 ≤ p ∧ p < 5) (hv : 0 ≤ h 13 p ∧ h 13 p < 6) : am_CT mX7_tellMixed 0 0 [am_R 1, am_I p] ρ h (fun r ρ' h' => r = some (am_I (h 13 p + 100 + h 13 p)) ∧ ρ' = ρ ∧ h' = am_u h 1 8 (o_lv (o_lv (o_lv (o_lv (h 1 8) 3) 2) 1) 1)) := by
  have hn58 := hC.1
  have e1 := am_lc hC 1 1 11 (by decide)
  refine am_ct (ls := [some (am_R 1), some (am_I p), none]) ok_X7_tellMixed rfl (fun _ => Nat.le_of_ble_eq_true rfl) (fun _ => rfl) (by intro v hv; simpa using hv) ?_
  refine am_aload_n (pc' := 1) dX7_tellMixed_0 rfl rfl rfl ?_
  refine am_iconst (pc' := 2) dX7_tellMixed_1 rfl rfl ?_
  refine am_callV0 (pc' := 5) (as := [_]) (ci := 6)  rfl dX7_tellMixed_2 rfl ok_X7_leave ml_X7_292 im_X7_leave se_X7_leave rfl (Nat.le_of_ble_eq_true rfl) rfl (Nat.le_of_ble_eq_true rfl) (by first | assumption | exact ⟨by omega, by omega, rfl⟩) (t_leave hC) (fun r_2 ρ_2 h_2 q_2 g_2 e_2 => ?_)
  obtain ⟨rfl, rfl, rfl⟩ := q_2
  refine am_aload_n (pc' := 6) dX7_tellMixed_5 rfl rfl rfl ?_
  refine am_iload_n (pc' := 7) dX7_tellMixed_6 rfl rfl rfl ?_
  refine am_callV0 (pc' := 10) (as := [_]) (ci := 6)  rfl dX7_tellMixed_7 rfl ok_X7_tellFar ml_X7_286 im_X7_tellFar se_X7_tellFar rfl (Nat.le_of_ble_eq_true rfl) rfl (Nat.le_of_ble_eq_true rfl) (by first | assumption | exact ⟨by omega, by omega, rfl⟩) (t_tellFar hC hp (by rw [am_u_n (by omega)]; exact hv)) (fun r_7 ρ_7 h_7 q_7 g_7 e_7 => ?_)
  obtain ⟨rfl, rfl, rfl⟩ := q_7
  rw [am_uu, am_u_s, am_u_n (by omega)]
  refine am_istore_n (pc' := 11) (ls' := [_, _, _]) dX7_tellMixed_10 rfl rfl (Nat.le_of_ble_eq_true rfl) rfl rfl ?_
  refine am_iload_n (pc' := 12) dX7_tellMixed_11 rfl rfl rfl ?_
  refine am_aload_n (pc' := 13) dX7_tellMixed_12 rfl rfl rfl ?_
  refine am_iload_n (pc' := 14) dX7_tellMixed_13 rfl rfl rfl ?_
  refine am_callV0 (pc' := 17) (as := [_]) (ci := 6)  rfl dX7_tellMixed_14 rfl ok_X7_tellPlain ml_X7_283 im_X7_tellPlain se_X7_tellPlain rfl (Nat.le_of_ble_eq_true rfl) rfl (Nat.le_of_ble_eq_true rfl) (by first | assumption | exact ⟨by omega, by omega, rfl⟩) (t_tellPlain hC hp) (fun r_14 ρ_14 h_14 q_14 g_14 e_14 => ?_)
  obtain ⟨rfl, rfl, rfl⟩ := q_14
  rw [am_uu, am_u_s, am_u_n (by omega)]
  refine am_iadd (pc' := 18) dX7_tellMixed_17 rfl ⟨by omega, by omega⟩ ?_
  refine am_reti dX7_tellMixed_18 rfl ?_
  exact ⟨rfl, rfl, rfl⟩
/-- what telling answers, and the trace then -/
def o_tell (P : Int) (kd f : Int → Int) (p : Int) : Int := if 0 ≤ p ∧ p < P then (if kd p = 0 then f p else if kd p = 1 then f p + 100 else f p + 100 + f p) else -1
def o_tellT (P : Int) (kd : Int → Int) (p t : Int) : Int := if 0 ≤ p ∧ p < P then (if kd p = 0 then o_lv t 1 else if kd p = 1 then o_lv (o_lv t 2) 1 else o_lv (o_lv (o_lv (o_lv t 3) 2) 1) 1) else t
theorem am_uid {h : am_H} {x k : Int} : am_u h x k (h x k) = h := by
  funext y j
  unfold am_u
  split
  · rename_i z; rw [z.1, z.2]
  · rfl
theorem t_tell {ρ h : am_H} {p : Int} (hC : am_LC ρ) (hG : cl_R h) : am_CT mX7_tell 0 0 [am_R 1, am_I p] ρ h (fun r ρ' h' => r = some (am_I (o_tell (h 11 1) (h 12) (h 13) p)) ∧ ρ' = ρ ∧ h' = am_u h 1 8 (o_tellT (h 11 1) (h 12) p (h 1 8))) := by
  have hn58 := hC.1
  have hR := am_RA11 hC
  have hP5 := cl_P5 hG
  have e1 := am_lc hC 1 1 11 (by decide)
  have e2 := am_lc hC 11 2 12 (by decide)
  have e4 := am_lc hC 12 (-1) 5 (by decide)
  have hv : 0 ≤ p ∧ p < h 11 1 → 0 ≤ h 13 p ∧ h 13 p < 6 := fun z => by
    have y := (cl_RO hG (by omega)).1
    have y1 := y.2.2.2.2 p z.1 z.2
    have y2 := y.2.2.2.1
    exact ⟨y1.1, Int.lt_of_lt_of_le y1.2 y2⟩
  refine am_ct (ls := [some (am_R 1), some (am_I p)]) ok_X7_tell rfl (fun _ => Nat.le_of_ble_eq_true rfl) (fun _ => rfl) (by intro v hv; simpa using hv) ?_
  unfold o_tell o_tellT
  refine am_aload_n (pc' := 1) dX7_tell_0 rfl rfl rfl ?_
  refine am_getRk (ki := 1) (pc' := 4) (k := 1) (ci := 6) rfl dX7_tell_1 rfl fl_X7_21 (by first | assumption | exact ⟨by omega, by omega, rfl⟩) rfl (by assumption) (by omega) ?_
  refine am_iload_n (pc' := 5) dX7_tell_4 rfl rfl rfl ?_
  refine am_callVp (pc' := 8) (as := [_]) (ci := 3)  rfl dX7_tell_5 rfl ok_X3_has ml_X7_98 im_X3_has se_X3_has rfl (Nat.le_of_ble_eq_true rfl) rfl (Nat.le_of_ble_eq_true rfl) (by first | assumption | exact ⟨by omega, by omega, rfl⟩) (t_has hR) ?_
  refine am_if_ne (pc' := 11) (tgt := 13) dX7_tell_8 rfl rfl (fun c_8 => ?_) (fun c_8 => ?_)
  · simp only [am_z0, am_z1, ne_eq] at c_8
    refine am_aload_n (pc' := 14) dX7_tell_13 rfl rfl rfl ?_
    refine am_getRk (ki := 1) (pc' := 17) (k := 1) (ci := 6) rfl dX7_tell_14 rfl fl_X7_21 (by first | assumption | exact ⟨by omega, by omega, rfl⟩) rfl (by assumption) (by omega) ?_
    refine am_getRk (ki := 2) (pc' := 20) (k := 2) (ci := 3) rfl dX7_tell_17 rfl fl_X7_101 (by first | assumption | exact ⟨by omega, by omega, rfl⟩) rfl (by assumption) (by omega) ?_
    refine am_iload_n (pc' := 21) dX7_tell_20 rfl rfl rfl ?_
    refine am_iaload (pc' := 22) dX7_tell_21 rfl (by first | assumption | exact ⟨by omega, by omega, rfl⟩) (by omega) (by omega) ?_
    refine am_case (0) (fun c_22_0 => ?_) (fun c_22_0 => ?_)
    · refine am_look (pc' := 48) (off := 26) dX7_tell_22 rfl rfl rfl ?_
      refine am_aload_n (pc' := 49) dX7_tell_48 rfl rfl rfl ?_
      refine am_iload_n (pc' := 50) dX7_tell_49 rfl rfl rfl ?_
      refine am_callV0 (pc' := 53) (as := [_]) (ci := 6)  rfl dX7_tell_50 rfl ok_X7_tellPlain ml_X7_283 im_X7_tellPlain se_X7_tellPlain rfl (Nat.le_of_ble_eq_true rfl) rfl (Nat.le_of_ble_eq_true rfl) (by first | assumption | exact ⟨by omega, by omega, rfl⟩) (t_tellPlain hC (by omega)) (fun r_50 ρ_50 h_50 q_50 g_50 e_50 => ?_)
      obtain ⟨rfl, rfl, rfl⟩ := q_50
      refine am_reti dX7_tell_53 rfl ?_
      exact ⟨by rw [if_pos (by omega), if_pos (by omega)], rfl, by rw [if_pos (by omega), if_pos (by omega)]⟩
    refine am_case (1) (fun c_22_1 => ?_) (fun c_22_1 => ?_)
    · refine am_look (pc' := 54) (off := 32) dX7_tell_22 rfl rfl rfl ?_
      refine am_aload_n (pc' := 55) dX7_tell_54 rfl rfl rfl ?_
      refine am_iload_n (pc' := 56) dX7_tell_55 rfl rfl rfl ?_
      refine am_callV0 (pc' := 59) (as := [_]) (ci := 6)  rfl dX7_tell_56 rfl ok_X7_tellFar ml_X7_286 im_X7_tellFar se_X7_tellFar rfl (Nat.le_of_ble_eq_true rfl) rfl (Nat.le_of_ble_eq_true rfl) (by first | assumption | exact ⟨by omega, by omega, rfl⟩) (t_tellFar hC (by omega) (hv (by omega))) (fun r_56 ρ_56 h_56 q_56 g_56 e_56 => ?_)
      obtain ⟨rfl, rfl, rfl⟩ := q_56
      refine am_reti dX7_tell_59 rfl ?_
      exact ⟨by rw [if_pos (by omega), if_neg (by omega), if_pos (by omega)], rfl, by rw [if_pos (by omega), if_neg (by omega), if_pos (by omega)]⟩
    refine am_look (pc' := 60) (off := 38) dX7_tell_22 rfl (by simp [Op.lookupswitch.offset, Ne.symm, c_22_0, c_22_1]) rfl ?_
    refine am_aload_n (pc' := 61) dX7_tell_60 rfl rfl rfl ?_
    refine am_iload_n (pc' := 62) dX7_tell_61 rfl rfl rfl ?_
    refine am_callV0 (pc' := 65) (as := [_]) (ci := 6)  rfl dX7_tell_62 rfl ok_X7_tellMixed ml_X7_289 im_X7_tellMixed se_X7_tellMixed rfl (Nat.le_of_ble_eq_true rfl) rfl (Nat.le_of_ble_eq_true rfl) (by first | assumption | exact ⟨by omega, by omega, rfl⟩) (t_tellMixed hC (by omega) (hv (by omega))) (fun r_62 ρ_62 h_62 q_62 g_62 e_62 => ?_)
    obtain ⟨rfl, rfl, rfl⟩ := q_62
    refine am_reti dX7_tell_65 rfl ?_
    exact ⟨by rw [if_pos (by omega), if_neg (by omega), if_neg (by omega)], rfl, by rw [if_pos (by omega), if_neg (by omega), if_neg (by omega)]⟩
  · simp only [am_z0, am_z1, ne_eq] at c_8
    refine am_iconst (pc' := 12) dX7_tell_11 rfl rfl ?_
    refine am_reti dX7_tell_12 rfl ?_
    exact ⟨by rw [if_neg (by omega)], rfl, by rw [if_neg (by omega), am_uid]⟩
theorem t_call {ρ h : am_H} {p : Int} (hC : am_LC ρ) (hG : cl_R h) : am_CT mX7_call 0 0 [am_R 1, am_I p] ρ h (fun r ρ' h' => r = some (am_I (if 0 ≤ p ∧ p < h 11 1 then (if h 12 p = 2 then 60 else p) else -1)) ∧ ρ' = ρ ∧ h' = am_u h 1 8 (if 0 ≤ p ∧ p < h 11 1 then o_lv (h 1 8) (if h 12 p = 2 then 5 else 4) else h 1 8)) := by
  have hn58 := hC.1
  have hR := am_RA11 hC
  have hP5 := cl_P5 hG
  have e1 := am_lc hC 1 1 11 (by decide)
  have e2 := am_lc hC 11 2 12 (by decide)
  have e4 := am_lc hC 12 (-1) 5 (by decide)
  refine am_ct (ls := [some (am_R 1), some (am_I p)]) ok_X7_call rfl (fun _ => Nat.le_of_ble_eq_true rfl) (fun _ => rfl) (by intro v hv; simpa using hv) ?_
  refine am_aload_n (pc' := 1) dX7_call_0 rfl rfl rfl ?_
  refine am_getRk (ki := 1) (pc' := 4) (k := 1) (ci := 6) rfl dX7_call_1 rfl fl_X7_21 (by first | assumption | exact ⟨by omega, by omega, rfl⟩) rfl (by assumption) (by omega) ?_
  refine am_iload_n (pc' := 5) dX7_call_4 rfl rfl rfl ?_
  refine am_callVp (pc' := 8) (as := [_]) (ci := 3)  rfl dX7_call_5 rfl ok_X3_has ml_X7_98 im_X3_has se_X3_has rfl (Nat.le_of_ble_eq_true rfl) rfl (Nat.le_of_ble_eq_true rfl) (by first | assumption | exact ⟨by omega, by omega, rfl⟩) (t_has hR) ?_
  refine am_if_ne (pc' := 11) (tgt := 13) dX7_call_8 rfl rfl (fun c_8 => ?_) (fun c_8 => ?_)
  · simp only [am_z0, am_z1, ne_eq] at c_8
    refine am_aload_n (pc' := 14) dX7_call_13 rfl rfl rfl ?_
    refine am_getRk (ki := 1) (pc' := 17) (k := 1) (ci := 6) rfl dX7_call_14 rfl fl_X7_21 (by first | assumption | exact ⟨by omega, by omega, rfl⟩) rfl (by assumption) (by omega) ?_
    refine am_getRk (ki := 2) (pc' := 20) (k := 2) (ci := 3) rfl dX7_call_17 rfl fl_X7_101 (by first | assumption | exact ⟨by omega, by omega, rfl⟩) rfl (by assumption) (by omega) ?_
    refine am_iload_n (pc' := 21) dX7_call_20 rfl rfl rfl ?_
    refine am_iaload (pc' := 22) dX7_call_21 rfl (by first | assumption | exact ⟨by omega, by omega, rfl⟩) (by omega) (by omega) ?_
    refine am_iconst (pc' := 23) dX7_call_22 rfl rfl ?_
    refine am_icmp_ne (pc' := 26) (tgt := 34) dX7_call_23 rfl rfl (fun c_23 => ?_) (fun c_23 => ?_)
    · refine am_aload_n (pc' := 35) dX7_call_34 rfl rfl rfl ?_
      refine am_iconst (pc' := 36) dX7_call_35 rfl rfl ?_
      refine am_callV0 (pc' := 39) (as := [_]) (ci := 6)  rfl dX7_call_36 rfl ok_X7_leave ml_X7_292 im_X7_leave se_X7_leave rfl (Nat.le_of_ble_eq_true rfl) rfl (Nat.le_of_ble_eq_true rfl) (by first | assumption | exact ⟨by omega, by omega, rfl⟩) (t_leave hC) (fun r_36 ρ_36 h_36 q_36 g_36 e_36 => ?_)
      obtain ⟨rfl, rfl, rfl⟩ := q_36
      refine am_iload_n (pc' := 40) dX7_call_39 rfl rfl rfl ?_
      refine am_reti dX7_call_40 rfl ?_
      exact ⟨by rw [if_pos (by omega), if_neg (by omega)], rfl, by rw [if_pos (by omega), if_neg (by omega)]⟩
    · refine am_aload_n (pc' := 27) dX7_call_26 rfl rfl rfl ?_
      refine am_iconst (pc' := 28) dX7_call_27 rfl rfl ?_
      refine am_callV0 (pc' := 31) (as := [_]) (ci := 6)  rfl dX7_call_28 rfl ok_X7_leave ml_X7_292 im_X7_leave se_X7_leave rfl (Nat.le_of_ble_eq_true rfl) rfl (Nat.le_of_ble_eq_true rfl) (by first | assumption | exact ⟨by omega, by omega, rfl⟩) (t_leave hC) (fun r_28 ρ_28 h_28 q_28 g_28 e_28 => ?_)
      obtain ⟨rfl, rfl, rfl⟩ := q_28
      refine am_bipush (pc' := 33) dX7_call_31 rfl rfl (by decide) ?_
      refine am_reti dX7_call_33 rfl ?_
      exact ⟨by rw [if_pos (by omega), if_pos (by omega)], rfl, by rw [if_pos (by omega), if_pos (by omega)]⟩
  · simp only [am_z0, am_z1, ne_eq] at c_8
    refine am_iconst (pc' := 12) dX7_call_11 rfl rfl ?_
    refine am_reti dX7_call_12 rfl ?_
    exact ⟨by rw [if_neg (by omega)], rfl, by rw [if_neg (by omega), am_uid]⟩
theorem t_as {ρ h : am_H} {p k : Int} (hC : am_LC ρ) (hG : cl_R h) : am_CT mX7_as 0 0 [am_R 1, am_I p, am_I k] ρ h (fun r ρ' h' => r = some (am_I (if 0 ≤ p ∧ p < h 11 1 then (if 0 ≤ k ∧ k ≤ 2 then (if k ≤ h 12 p then 1 else -12) else -2) else -1)) ∧ ρ' = ρ ∧ h' = am_u h 1 9 (if (0 ≤ p ∧ p < h 11 1) ∧ (0 ≤ k ∧ k ≤ 2) ∧ h 12 p < k then 2 else 0)) := by
  have hn58 := hC.1
  have hR := am_RA11 hC
  have hP5 := cl_P5 hG
  have e1 := am_lc hC 1 1 11 (by decide)
  have e2 := am_lc hC 11 2 12 (by decide)
  have e4 := am_lc hC 12 (-1) 5 (by decide)
  refine am_ct (ls := [some (am_R 1), some (am_I p), some (am_I k)]) ok_X7_as rfl (fun _ => Nat.le_of_ble_eq_true rfl) (fun _ => rfl) (by intro v hv; simpa using hv) ?_
  refine am_aload_n (pc' := 1) dX7_as_0 rfl rfl rfl ?_
  refine am_iconst (pc' := 2) dX7_as_1 rfl rfl ?_
  refine am_putIk (ki := 9) (pc' := 5) (k := 9) (ci := 6) rfl dX7_as_2 rfl fl_X7_56 (by first | assumption | exact ⟨by omega, by omega, rfl⟩) rfl (fun _ _ _ e => by cases e; rfl) ?_
  refine am_aload_n (pc' := 6) dX7_as_5 rfl rfl rfl ?_
  refine am_getRk (ki := 1) (pc' := 9) (k := 1) (ci := 6) rfl dX7_as_6 rfl fl_X7_21 (by first | assumption | exact ⟨by omega, by omega, rfl⟩) rfl (by assumption) (by omega) ?_
  refine am_iload_n (pc' := 10) dX7_as_9 rfl rfl rfl ?_
  have u1 : am_u h 1 9 0 11 1 = h 11 1 := am_u_n (by omega)
  refine am_callVp (pc' := 13) (as := [_]) (ci := 3)  rfl dX7_as_10 rfl ok_X3_has ml_X7_98 im_X3_has se_X3_has rfl (Nat.le_of_ble_eq_true rfl) rfl (Nat.le_of_ble_eq_true rfl) (by first | assumption | exact ⟨by omega, by omega, rfl⟩) (t_has hR) ?_
  refine am_if_ne (pc' := 16) (tgt := 18) dX7_as_13 rfl rfl (fun c_13 => ?_) (fun c_13 => ?_)
  · simp only [am_z0, am_z1, ne_eq] at c_13
    refine am_iload_n (pc' := 19) dX7_as_18 rfl rfl rfl ?_
    refine am_if_lt (pc' := 22) (tgt := 27) dX7_as_19 rfl rfl (fun c_19 => ?_) (fun c_19 => ?_)
    · refine am_bipush (pc' := 29) dX7_as_27 rfl rfl (by decide) ?_
      refine am_reti dX7_as_29 rfl ?_
      exact ⟨by rw [if_pos (by omega), if_neg (by omega)], rfl, by rw [if_neg (by omega)]⟩
    · refine am_iload_n (pc' := 23) dX7_as_22 rfl rfl rfl ?_
      refine am_iconst (pc' := 24) dX7_as_23 rfl rfl ?_
      refine am_icmp_le (pc' := 27) (tgt := 30) dX7_as_24 rfl rfl (fun c_24 => ?_) (fun c_24 => ?_)
      · refine am_aload_n (pc' := 31) dX7_as_30 rfl rfl rfl ?_
        refine am_getRk (ki := 1) (pc' := 34) (k := 1) (ci := 6) rfl dX7_as_31 rfl fl_X7_21 (by first | assumption | exact ⟨by omega, by omega, rfl⟩) rfl (by assumption) (by omega) ?_
        refine am_getRk (ki := 2) (pc' := 37) (k := 2) (ci := 3) rfl dX7_as_34 rfl fl_X7_101 (by first | assumption | exact ⟨by omega, by omega, rfl⟩) rfl (by assumption) (by omega) ?_
        refine am_iload_n (pc' := 38) dX7_as_37 rfl rfl rfl ?_
        have u2 : am_u h 1 9 0 12 p = h 12 p := am_u_n (by omega)
        refine am_iaload (pc' := 39) dX7_as_38 rfl (by first | assumption | exact ⟨by omega, by omega, rfl⟩) (by omega) (by omega) ?_
        refine am_iload_n (pc' := 40) dX7_as_39 rfl rfl rfl ?_
        refine am_icmp_ge (pc' := 43) (tgt := 53) dX7_as_40 rfl rfl (fun c_40 => ?_) (fun c_40 => ?_)
        · refine am_iconst (pc' := 54) dX7_as_53 rfl rfl ?_
          refine am_reti dX7_as_54 rfl ?_
          exact ⟨by rw [if_pos (by omega), if_pos (by omega), if_pos (by omega)], rfl, by rw [if_neg (by omega)]⟩
        · refine am_aload_n (pc' := 44) dX7_as_43 rfl rfl rfl ?_
          refine am_iconst (pc' := 45) dX7_as_44 rfl rfl ?_
          refine am_putIk (ki := 9) (pc' := 48) (k := 9) (ci := 6) rfl dX7_as_45 rfl fl_X7_56 (by first | assumption | exact ⟨by omega, by omega, rfl⟩) rfl (fun _ _ _ e => by cases e; rfl) ?_
          refine am_aload_n (pc' := 49) dX7_as_48 rfl rfl rfl ?_
          refine am_callVp (pc' := 52) (as := []) (ci := 6)  rfl dX7_as_49 rfl ok_X7_answerOfFault ml_X7_71 im_X7_answerOfFault se_X7_answerOfFault rfl (Nat.le_of_ble_eq_true rfl) rfl (Nat.le_of_ble_eq_true rfl) (by first | assumption | exact ⟨by omega, by omega, rfl⟩) (t_answerOfFault hC (by rw [am_u_s]; omega)) ?_
          refine am_reti dX7_as_52 rfl ?_
          exact ⟨by rw [if_pos (by omega), if_pos (by omega), if_neg (by omega), am_u_s]; rfl, rfl, by rw [if_pos (by omega), am_uu]⟩
      · refine am_bipush (pc' := 29) dX7_as_27 rfl rfl (by decide) ?_
        refine am_reti dX7_as_29 rfl ?_
        exact ⟨by rw [if_pos (by omega), if_neg (by omega)], rfl, by rw [if_neg (by omega)]⟩
  · simp only [am_z0, am_z1, ne_eq] at c_13
    refine am_iconst (pc' := 17) dX7_as_16 rfl rfl ?_
    refine am_reti dX7_as_17 rfl ?_
    exact ⟨by rw [if_neg (by omega)], rfl, by rw [if_neg (by omega)]⟩
theorem t_trace {ρ h : am_H} (hC : am_LC ρ) : am_CT mX7_trace 0 0 [am_R 1] ρ h (am_P (am_I (h 1 8)) ρ h) := by
  have hn58 := hC.1
  refine am_ct (ls := [some (am_R 1)]) ok_X7_trace rfl (fun _ => Nat.le_of_ble_eq_true rfl) (fun _ => rfl) (by intro v hv; simpa using hv) ?_
  refine am_aload_n (pc' := 1) dX7_trace_0 rfl rfl rfl ?_
  refine am_getIk (ki := 8) (pc' := 4) (k := 8) (ci := 6) rfl dX7_trace_1 rfl fl_X7_295 (by first | assumption | exact ⟨by omega, by omega, rfl⟩) rfl ?_
  refine am_reti dX7_trace_4 rfl ?_
  exact ⟨rfl, rfl, rfl⟩
theorem t_fault {ρ h : am_H} (hC : am_LC ρ) : am_CT mX7_fault 0 0 [am_R 1] ρ h (am_P (am_I (h 1 9)) ρ h) := by
  have hn58 := hC.1
  refine am_ct (ls := [some (am_R 1)]) ok_X7_fault rfl (fun _ => Nat.le_of_ble_eq_true rfl) (fun _ => rfl) (by intro v hv; simpa using hv) ?_
  refine am_aload_n (pc' := 1) dX7_fault_0 rfl rfl rfl ?_
  refine am_getIk (ki := 9) (pc' := 4) (k := 9) (ci := 6) rfl dX7_fault_1 rfl fl_X7_56 (by first | assumption | exact ⟨by omega, by omega, rfl⟩) rfl ?_
  refine am_reti dX7_fault_4 rfl ?_
  exact ⟨rfl, rfl, rfl⟩
def o_many (P B d : Int) (f : Int → Int) (c w : Int) : Int := if w = 0 then P else if w = 1 then B else if w = 2 then d else if w = 3 then mt_sum (fun q => if f q = 0 then 1 else 0) P.toNat else if w = 4 then c else -2
theorem t_many {ρ h : am_H} {w : Int} (hC : am_LC ρ) (hG : cl_R h) : am_CT mX7_many 0 0 [am_R 1, am_I w] ρ h (am_P (am_I (o_many (h 11 1) (h 11 0) (h 1 7) (h 13) (h 33 3) w)) ρ h) := by
  have hn58 := hC.1
  have hR := am_RA11 hC
  have hP5 := cl_P5 hG
  have e1 := am_lc hC 1 1 11 (by decide)
  have e2 := am_lc hC 1 5 33 (by decide)
  refine am_ct (ls := [some (am_R 1), some (am_I w)]) ok_X7_many rfl (fun _ => Nat.le_of_ble_eq_true rfl) (fun _ => rfl) (by intro v hv; simpa using hv) ?_
  unfold o_many
  refine am_iload_n (pc' := 1) dX7_many_0 rfl rfl rfl ?_
  refine am_case (0) (fun c_1_0 => ?_) (fun c_1_0 => ?_)
  · refine am_tabIn (pc' := 36) (off := 35) dX7_many_1 (by decide) (by decide) rfl rfl ?_
    refine am_aload_n (pc' := 37) dX7_many_36 rfl rfl rfl ?_
    refine am_getRk (ki := 1) (pc' := 40) (k := 1) (ci := 6) rfl dX7_many_37 rfl fl_X7_21 (by first | assumption | exact ⟨by omega, by omega, rfl⟩) rfl (by assumption) (by omega) ?_
    refine am_getIk (ki := 1) (pc' := 43) (k := 1) (ci := 3) rfl dX7_many_40 rfl fl_X7_95 (by first | assumption | exact ⟨by omega, by omega, rfl⟩) rfl ?_
    refine am_reti dX7_many_43 rfl ?_
    exact ⟨by rw [if_pos (by omega)], rfl, rfl⟩
  refine am_case (1) (fun c_1_1 => ?_) (fun c_1_1 => ?_)
  · refine am_tabIn (pc' := 44) (off := 43) dX7_many_1 (by decide) (by decide) rfl rfl ?_
    refine am_aload_n (pc' := 45) dX7_many_44 rfl rfl rfl ?_
    refine am_getRk (ki := 1) (pc' := 48) (k := 1) (ci := 6) rfl dX7_many_45 rfl fl_X7_21 (by first | assumption | exact ⟨by omega, by omega, rfl⟩) rfl (by assumption) (by omega) ?_
    refine am_getIk (ki := 0) (pc' := 51) (k := 0) (ci := 3) rfl dX7_many_48 rfl fl_X7_235 (by first | assumption | exact ⟨by omega, by omega, rfl⟩) rfl ?_
    refine am_reti dX7_many_51 rfl ?_
    exact ⟨by rw [if_neg (by omega), if_pos (by omega)], rfl, rfl⟩
  refine am_case (2) (fun c_1_2 => ?_) (fun c_1_2 => ?_)
  · refine am_tabIn (pc' := 52) (off := 51) dX7_many_1 (by decide) (by decide) rfl rfl ?_
    refine am_aload_n (pc' := 53) dX7_many_52 rfl rfl rfl ?_
    refine am_getIk (ki := 7) (pc' := 56) (k := 7) (ci := 6) rfl dX7_many_53 rfl fl_X7_85 (by first | assumption | exact ⟨by omega, by omega, rfl⟩) rfl ?_
    refine am_reti dX7_many_56 rfl ?_
    exact ⟨by rw [if_neg (by omega), if_neg (by omega), if_pos (by omega)], rfl, rfl⟩
  refine am_case (3) (fun c_1_3 => ?_) (fun c_1_3 => ?_)
  · refine am_tabIn (pc' := 57) (off := 56) dX7_many_1 (by decide) (by decide) rfl rfl ?_
    refine am_aload_n (pc' := 58) dX7_many_57 rfl rfl rfl ?_
    refine am_getRk (ki := 1) (pc' := 61) (k := 1) (ci := 6) rfl dX7_many_58 rfl fl_X7_21 (by first | assumption | exact ⟨by omega, by omega, rfl⟩) rfl (by assumption) (by omega) ?_
    refine am_callVp (pc' := 64) (as := []) (ci := 3)  rfl dX7_many_61 rfl ok_X3_zeros ml_X7_123 im_X3_zeros se_X3_zeros rfl (Nat.le_of_ble_eq_true rfl) rfl (Nat.le_of_ble_eq_true rfl) (by first | assumption | exact ⟨by omega, by omega, rfl⟩) (t_zeros hR hP5) ?_
    refine am_reti dX7_many_64 rfl ?_
    exact ⟨by rw [if_neg (by omega), if_neg (by omega), if_neg (by omega), if_pos (by omega)]; rfl, rfl, rfl⟩
  refine am_case (4) (fun c_1_4 => ?_) (fun c_1_4 => ?_)
  · refine am_tabIn (pc' := 65) (off := 64) dX7_many_1 (by decide) (by decide) rfl rfl ?_
    refine am_aload_n (pc' := 66) dX7_many_65 rfl rfl rfl ?_
    refine am_getRk (ki := 5) (pc' := 69) (k := 5) (ci := 6) rfl dX7_many_66 rfl fl_X7_45 (by first | assumption | exact ⟨by omega, by omega, rfl⟩) rfl (by assumption) (by omega) ?_
    refine am_getIk (ki := 3) (pc' := 72) (k := 3) (ci := 2) rfl dX7_many_69 rfl fl_X7_88 (by first | assumption | exact ⟨by omega, by omega, rfl⟩) rfl ?_
    refine am_reti dX7_many_72 rfl ?_
    exact ⟨by rw [if_neg (by omega), if_neg (by omega), if_neg (by omega), if_neg (by omega), if_pos (by omega)], rfl, rfl⟩
  refine am_tabOut (pc' := 73) dX7_many_1 rfl (by omega) ?_
  refine am_bipush (pc' := 75) dX7_many_73 rfl rfl (by decide) ?_
  refine am_reti dX7_many_75 rfl ?_
  exact ⟨by rw [if_neg (by omega), if_neg (by omega), if_neg (by omega), if_neg (by omega), if_neg (by omega)], rfl, rfl⟩
