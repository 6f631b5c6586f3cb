/-! Ring, the reads -/
theorem t_isNone {ρ h : am_H} {r : Int} (hR : am_RA ρ r) : am_CT mX3_isNone 0 0 [am_R r] ρ h (am_P (am_I (if h r 1 = 0 then 1 else 0)) ρ h) := by
  obtain ⟨i1, i2, i3, i4, ⟨e1, e2, e3⟩, l1, l2, l3⟩ := hR
  have r0 := i1.1
  refine am_ct (ls := [some (am_R r)]) ok_X3_isNone rfl (fun _ => Nat.le_of_ble_eq_true rfl) (fun _ => rfl) (by intro v hv; simpa using hv) ?_
  refine am_aload_n (pc' := 1) dX3_isNone_0 rfl rfl rfl ?_
  refine am_getIk (ki := 1) (pc' := 4) (k := 1) (ci := 3) rfl dX3_isNone_1 rfl fl_X3_15 (by first | assumption | exact ⟨by omega, by omega, rfl⟩) rfl ?_
  refine am_if_ne (pc' := 7) (tgt := 11) dX3_isNone_4 rfl rfl (fun c_4 => ?_) (fun c_4 => ?_)
  · refine am_iconst (pc' := 12) dX3_isNone_11 rfl rfl ?_
    refine am_retz dX3_isNone_12 rfl (by first | exact Or.inl rfl | exact Or.inr rfl | omega) ?_
    exact ⟨by simp [*], rfl, rfl⟩
  · refine am_iconst (pc' := 8) dX3_isNone_7 rfl rfl ?_
    refine am_goto (pc' := 12) dX3_isNone_8 rfl ?_
    refine am_retz dX3_isNone_12 rfl (by first | exact Or.inl rfl | exact Or.inr rfl | omega) ?_
    exact ⟨by simp [*], rfl, rfl⟩
theorem t_has {ρ h : am_H} {r p : Int} (hR : am_RA ρ r) : am_CT mX3_has 0 0 [am_R r, am_I p] ρ h (am_P (am_I (if 0 ≤ p ∧ p < h r 1 then 1 else 0)) ρ h) := by
  obtain ⟨i1, i2, i3, i4, ⟨e1, e2, e3⟩, l1, l2, l3⟩ := hR
  have r0 := i1.1
  refine am_ct (ls := [some (am_R r), some (am_I p)]) ok_X3_has rfl (fun _ => Nat.le_of_ble_eq_true rfl) (fun _ => rfl) (by intro v hv; simpa using hv) ?_
  refine am_iload_n (pc' := 1) dX3_has_0 rfl rfl rfl ?_
  refine am_if_lt (pc' := 4) (tgt := 16) dX3_has_1 rfl rfl (fun c_1 => ?_) (fun c_1 => ?_)
  · refine am_iconst (pc' := 17) dX3_has_16 rfl rfl ?_
    refine am_retz dX3_has_17 rfl (by first | exact Or.inl rfl | exact Or.inr rfl | omega) ?_
    exact ⟨by first | rw [if_pos (by omega)] | rw [if_neg (by omega)], rfl, rfl⟩
  · refine am_iload_n (pc' := 5) dX3_has_4 rfl rfl rfl ?_
    refine am_aload_n (pc' := 6) dX3_has_5 rfl rfl rfl ?_
    refine am_getIk (ki := 1) (pc' := 9) (k := 1) (ci := 3) rfl dX3_has_6 rfl fl_X3_15 (by first | assumption | exact ⟨by omega, by omega, rfl⟩) rfl ?_
    refine am_icmp_ge (pc' := 12) (tgt := 16) dX3_has_9 rfl rfl (fun c_9 => ?_) (fun c_9 => ?_)
    · refine am_iconst (pc' := 17) dX3_has_16 rfl rfl ?_
      refine am_retz dX3_has_17 rfl (by first | exact Or.inl rfl | exact Or.inr rfl | omega) ?_
      exact ⟨by first | rw [if_pos (by omega)] | rw [if_neg (by omega)], rfl, rfl⟩
    · refine am_iconst (pc' := 13) dX3_has_12 rfl rfl ?_
      refine am_goto (pc' := 17) dX3_has_13 rfl ?_
      refine am_retz dX3_has_17 rfl (by first | exact Or.inl rfl | exact Or.inr rfl | omega) ?_
      exact ⟨by first | rw [if_pos (by omega)] | rw [if_neg (by omega)], rfl, rfl⟩
theorem t_numberAt {ρ h : am_H} {r p : Int} (hR : am_RA ρ r) (hP : h r 1 ≤ 5) : am_CT mX3_numberAt 0 0 [am_R r, am_I p] ρ h (am_P (am_I (if 0 ≤ p ∧ p < h r 1 then h (r + 2) p else -9)) ρ h) := by
  obtain ⟨i1, i2, i3, i4, ⟨e1, e2, e3⟩, l1, l2, l3⟩ := id hR
  have r0 := i1.1
  refine am_ct (ls := [some (am_R r), some (am_I p)]) ok_X3_numberAt rfl (fun _ => Nat.le_of_ble_eq_true rfl) (fun _ => rfl) (by intro v hv; simpa using hv) ?_
  refine am_aload_n (pc' := 1) dX3_numberAt_0 rfl rfl rfl ?_
  refine am_iload_n (pc' := 2) dX3_numberAt_1 rfl rfl rfl ?_
  refine am_callVp (pc' := 5) (as := [_]) (ci := 3)  rfl dX3_numberAt_2 rfl ok_X3_has ml_X3_28 im_X3_has se_X3_has rfl (Nat.le_of_ble_eq_true rfl) rfl (Nat.le_of_ble_eq_true rfl) (by first | assumption | exact ⟨by omega, by omega, rfl⟩) (t_has hR) ?_
  refine am_if_eq (pc' := 8) (tgt := 17) dX3_numberAt_5 rfl rfl (fun c_5 => ?_) (fun c_5 => ?_)
  · simp only [am_z0, am_z1, ne_eq] at c_5
    refine am_bipush (pc' := 19) dX3_numberAt_17 rfl rfl (by decide) ?_
    refine am_reti dX3_numberAt_19 rfl ?_
    exact ⟨by first | rw [if_pos (by omega)] | rw [if_neg (by omega)], rfl, rfl⟩
  · simp only [am_z0, am_z1, ne_eq] at c_5
    refine am_aload_n (pc' := 9) dX3_numberAt_8 rfl rfl rfl ?_
    refine am_getRk (ki := 3) (pc' := 12) (k := 3) (ci := 3) rfl dX3_numberAt_9 rfl fl_X3_22 (by first | assumption | exact ⟨by omega, by omega, rfl⟩) rfl (by assumption) (by omega) ?_
    refine am_iload_n (pc' := 13) dX3_numberAt_12 rfl rfl rfl ?_
    refine am_iaload (pc' := 14) dX3_numberAt_13 rfl (by first | assumption | exact ⟨by omega, by omega, rfl⟩) (by omega) (by omega) ?_
    refine am_goto (pc' := 19) dX3_numberAt_14 rfl ?_
    refine am_reti dX3_numberAt_19 rfl ?_
    exact ⟨by first | rw [if_pos (by omega)] | rw [if_neg (by omega)], rfl, rfl⟩
theorem t_isNumber {ρ h : am_H} {r v : Int} (hR : am_RA ρ r) : am_CT mX3_isNumber 0 0 [am_R r, am_I v] ρ h (am_P (am_I (if 0 ≤ v ∧ v < h r 0 then 1 else 0)) ρ h) := by
  obtain ⟨i1, i2, i3, i4, ⟨e1, e2, e3⟩, l1, l2, l3⟩ := hR
  have r0 := i1.1
  refine am_ct (ls := [some (am_R r), some (am_I v)]) ok_X3_isNumber rfl (fun _ => Nat.le_of_ble_eq_true rfl) (fun _ => rfl) (by intro v hv; simpa using hv) ?_
  refine am_iload_n (pc' := 1) dX3_isNumber_0 rfl rfl rfl ?_
  refine am_if_lt (pc' := 4) (tgt := 16) dX3_isNumber_1 rfl rfl (fun c_1 => ?_) (fun c_1 => ?_)
  · refine am_iconst (pc' := 17) dX3_isNumber_16 rfl rfl ?_
    refine am_retz dX3_isNumber_17 rfl (by first | exact Or.inl rfl | exact Or.inr rfl | omega) ?_
    exact ⟨by first | rw [if_pos (by omega)] | rw [if_neg (by omega)], rfl, rfl⟩
  · refine am_iload_n (pc' := 5) dX3_isNumber_4 rfl rfl rfl ?_
    refine am_aload_n (pc' := 6) dX3_isNumber_5 rfl rfl rfl ?_
    refine am_getIk (ki := 0) (pc' := 9) (k := 0) (ci := 3) rfl dX3_isNumber_6 rfl fl_X3_9 (by first | assumption | exact ⟨by omega, by omega, rfl⟩) rfl ?_
    refine am_icmp_ge (pc' := 12) (tgt := 16) dX3_isNumber_9 rfl rfl (fun c_9 => ?_) (fun c_9 => ?_)
    · refine am_iconst (pc' := 17) dX3_isNumber_16 rfl rfl ?_
      refine am_retz dX3_isNumber_17 rfl (by first | exact Or.inl rfl | exact Or.inr rfl | omega) ?_
      exact ⟨by first | rw [if_pos (by omega)] | rw [if_neg (by omega)], rfl, rfl⟩
    · refine am_iconst (pc' := 13) dX3_isNumber_12 rfl rfl ?_
      refine am_goto (pc' := 17) dX3_isNumber_13 rfl ?_
      refine am_retz dX3_isNumber_17 rfl (by first | exact Or.inl rfl | exact Or.inr rfl | omega) ?_
      exact ⟨by first | rw [if_pos (by omega)] | rw [if_neg (by omega)], rfl, rfl⟩
theorem t_howFar {ρ h : am_H} {r p a : Int} (hR : am_RA ρ r) (hO : am_RO h r) (h0 : 0 ≤ p) (h1 : p < h r 1) (ha : a = 1 ∨ a = 2) : am_CT mX3_howFar 0 0 [am_R r, am_I p, am_I a] ρ h (am_P (am_I (mt_far (h r 1) (h (r + 2)) p a)) ρ h) := by
  obtain ⟨i1, i2, i3, i4, ⟨e1, e2, e3⟩, l1, l2, l3⟩ := hR
  have r0 := i1.1
  obtain ⟨o1, o2, o3, o4, o5⟩ := hO
  have hx := mt_ix_in (P := h r 1) o1 h0 h1 ha
  have hp := o5 p h0 h1
  have hq := o5 _ hx.1 hx.2
  refine am_ct (ls := [some (am_R r), some (am_I p), some (am_I a), none]) ok_X3_howFar rfl (fun _ => Nat.le_of_ble_eq_true rfl) (fun _ => rfl) (by intro v hv; simpa using hv) ?_
  refine am_iload_n (pc' := 1) dX3_howFar_0 rfl rfl rfl ?_
  refine am_iload_n (pc' := 2) dX3_howFar_1 rfl rfl rfl ?_
  refine am_iadd (pc' := 3) dX3_howFar_2 rfl ⟨by omega, by omega⟩ ?_
  refine am_aload_n (pc' := 4) dX3_howFar_3 rfl rfl rfl ?_
  refine am_getIk (ki := 1) (pc' := 7) (k := 1) (ci := 3) rfl dX3_howFar_4 rfl fl_X3_15 (by first | assumption | exact ⟨by omega, by omega, rfl⟩) rfl ?_
  refine am_icmp_ge (pc' := 10) (tgt := 16) dX3_howFar_7 rfl rfl (fun c_7 => ?_) (fun c_7 => ?_)
  · have e9 : mt_ix (h r 1) p a = p + a - h r 1 := by unfold mt_ix; rw [if_neg (by omega)]
    rw [e9] at hx hq
    refine am_iload_n (pc' := 17) dX3_howFar_16 rfl rfl rfl ?_
    refine am_iload_n (pc' := 18) dX3_howFar_17 rfl rfl rfl ?_
    refine am_iadd (pc' := 19) dX3_howFar_18 rfl ⟨by omega, by omega⟩ ?_
    refine am_aload_n (pc' := 20) dX3_howFar_19 rfl rfl rfl ?_
    refine am_getIk (ki := 1) (pc' := 23) (k := 1) (ci := 3) rfl dX3_howFar_20 rfl fl_X3_15 (by first | assumption | exact ⟨by omega, by omega, rfl⟩) rfl ?_
    refine am_isub (pc' := 24) dX3_howFar_23 rfl ⟨by omega, by omega⟩ ?_
    refine am_istore_n (pc' := 25) (ls' := [_, _, _, _]) dX3_howFar_24 rfl rfl (Nat.le_of_ble_eq_true rfl) rfl rfl ?_
    refine am_aload_n (pc' := 26) dX3_howFar_25 rfl rfl rfl ?_
    refine am_getRk (ki := 3) (pc' := 29) (k := 3) (ci := 3) rfl dX3_howFar_26 rfl fl_X3_22 (by first | assumption | exact ⟨by omega, by omega, rfl⟩) rfl (by assumption) (by omega) ?_
    refine am_iload_n (pc' := 30) dX3_howFar_29 rfl rfl rfl ?_
    refine am_iaload (pc' := 31) dX3_howFar_30 rfl (by first | assumption | exact ⟨by omega, by omega, rfl⟩) (by omega) (by omega) ?_
    refine am_aload_n (pc' := 32) dX3_howFar_31 rfl rfl rfl ?_
    refine am_getRk (ki := 3) (pc' := 35) (k := 3) (ci := 3) rfl dX3_howFar_32 rfl fl_X3_22 (by first | assumption | exact ⟨by omega, by omega, rfl⟩) rfl (by assumption) (by omega) ?_
    refine am_iload_n (pc' := 36) dX3_howFar_35 rfl rfl rfl ?_
    refine am_iaload (pc' := 37) dX3_howFar_36 rfl (by first | assumption | exact ⟨by omega, by omega, rfl⟩) (by omega) (by omega) ?_
    refine am_isub (pc' := 38) dX3_howFar_37 rfl ⟨by omega, by omega⟩ ?_
    refine am_mabs (pc' := 41) dX3_howFar_38 rfl ml_X3_61 (Nat.le_of_ble_eq_true rfl) (Nat.le_of_ble_eq_true rfl) ⟨by omega, by omega⟩ ?_
    refine am_reti dX3_howFar_41 rfl ?_
    exact ⟨by unfold mt_far mt_abs; rw [e9], rfl, rfl⟩
  · have e9 : mt_ix (h r 1) p a = p + a := by unfold mt_ix; rw [if_pos (by omega)]
    rw [e9] at hx hq
    refine am_iload_n (pc' := 11) dX3_howFar_10 rfl rfl rfl ?_
    refine am_iload_n (pc' := 12) dX3_howFar_11 rfl rfl rfl ?_
    refine am_iadd (pc' := 13) dX3_howFar_12 rfl ⟨by omega, by omega⟩ ?_
    refine am_goto (pc' := 24) dX3_howFar_13 rfl ?_
    refine am_istore_n (pc' := 25) (ls' := [_, _, _, _]) dX3_howFar_24 rfl rfl (Nat.le_of_ble_eq_true rfl) rfl rfl ?_
    refine am_aload_n (pc' := 26) dX3_howFar_25 rfl rfl rfl ?_
    refine am_getRk (ki := 3) (pc' := 29) (k := 3) (ci := 3) rfl dX3_howFar_26 rfl fl_X3_22 (by first | assumption | exact ⟨by omega, by omega, rfl⟩) rfl (by assumption) (by omega) ?_
    refine am_iload_n (pc' := 30) dX3_howFar_29 rfl rfl rfl ?_
    refine am_iaload (pc' := 31) dX3_howFar_30 rfl (by first | assumption | exact ⟨by omega, by omega, rfl⟩) (by omega) (by omega) ?_
    refine am_aload_n (pc' := 32) dX3_howFar_31 rfl rfl rfl ?_
    refine am_getRk (ki := 3) (pc' := 35) (k := 3) (ci := 3) rfl dX3_howFar_32 rfl fl_X3_22 (by first | assumption | exact ⟨by omega, by omega, rfl⟩) rfl (by assumption) (by omega) ?_
    refine am_iload_n (pc' := 36) dX3_howFar_35 rfl rfl rfl ?_
    refine am_iaload (pc' := 37) dX3_howFar_36 rfl (by first | assumption | exact ⟨by omega, by omega, rfl⟩) (by omega) (by omega) ?_
    refine am_isub (pc' := 38) dX3_howFar_37 rfl ⟨by omega, by omega⟩ ?_
    refine am_mabs (pc' := 41) dX3_howFar_38 rfl ml_X3_61 (Nat.le_of_ble_eq_true rfl) (Nat.le_of_ble_eq_true rfl) ⟨by omega, by omega⟩ ?_
    refine am_reti dX3_howFar_41 rfl ?_
    exact ⟨by unfold mt_far mt_abs; rw [e9], rfl, rfl⟩
theorem t_stepped {ρ h : am_H} {r p : Int} (hR : am_RA ρ r) (hO : am_RO h r) (h0 : 0 ≤ p) (h1 : p < h r 1) : am_CT mX3_stepped 0 0 [am_R r, am_I p] ρ h (am_P (am_I (mt_st (h r 1) (h r 0) (h (r + 1)) (h (r + 2)) p)) ρ h) := by
  obtain ⟨i1, i2, i3, i4, ⟨e1, e2, e3⟩, l1, l2, l3⟩ := id hR
  have r0 := i1.1
  obtain ⟨o1, o2, o3, o4, o5⟩ := id hO
  have q1 := mt_far_in o1 o5 h0 h1 (Or.inl rfl)
  have q2 := mt_far_in o1 o5 h0 h1 (Or.inr rfl)
  refine am_ct (ls := [some (am_R r), some (am_I p), none, none]) ok_X3_stepped rfl (fun _ => Nat.le_of_ble_eq_true rfl) (fun _ => rfl) (by intro v hv; simpa using hv) ?_
  refine am_aload_n (pc' := 1) dX3_stepped_0 rfl rfl rfl ?_
  refine am_iload_n (pc' := 2) dX3_stepped_1 rfl rfl rfl ?_
  refine am_iconst (pc' := 3) dX3_stepped_2 rfl rfl ?_
  refine am_callVp (pc' := 6) (as := [_, _]) (ci := 3)  rfl dX3_stepped_3 rfl ok_X3_howFar ml_X3_57 im_X3_howFar se_X3_howFar rfl (Nat.le_of_ble_eq_true rfl) rfl (Nat.le_of_ble_eq_true rfl) (by first | assumption | exact ⟨by omega, by omega, rfl⟩) (t_howFar hR hO h0 h1 (Or.inl rfl)) ?_
  refine am_istore_n (pc' := 7) (ls' := [_, _, _, _]) dX3_stepped_6 rfl rfl (Nat.le_of_ble_eq_true rfl) rfl rfl ?_
  refine am_aload_n (pc' := 8) dX3_stepped_7 rfl rfl rfl ?_
  refine am_iload_n (pc' := 9) dX3_stepped_8 rfl rfl rfl ?_
  refine am_iconst (pc' := 10) dX3_stepped_9 rfl rfl ?_
  refine am_callVp (pc' := 13) (as := [_, _]) (ci := 3)  rfl dX3_stepped_10 rfl ok_X3_howFar ml_X3_57 im_X3_howFar se_X3_howFar rfl (Nat.le_of_ble_eq_true rfl) rfl (Nat.le_of_ble_eq_true rfl) (by first | assumption | exact ⟨by omega, by omega, rfl⟩) (t_howFar hR hO h0 h1 (Or.inr rfl)) ?_
  refine am_istore_n (pc' := 14) (ls' := [_, _, _, _]) dX3_stepped_13 rfl rfl (Nat.le_of_ble_eq_true rfl) rfl rfl ?_
  refine am_aload_n (pc' := 15) dX3_stepped_14 rfl rfl rfl ?_
  refine am_getRk (ki := 2) (pc' := 18) (k := 2) (ci := 3) rfl dX3_stepped_15 rfl fl_X3_18 (by first | assumption | exact ⟨by omega, by omega, rfl⟩) rfl (by assumption) (by omega) ?_
  refine am_iload_n (pc' := 19) dX3_stepped_18 rfl rfl rfl ?_
  refine am_iaload (pc' := 20) dX3_stepped_19 rfl (by first | assumption | exact ⟨by omega, by omega, rfl⟩) (by omega) (by omega) ?_
  refine am_case (0) (fun c_20_0 => ?_) (fun c_20_0 => ?_)
  · refine am_look (pc' := 48) (off := 28) dX3_stepped_20 rfl rfl rfl ?_
    refine am_iload_n (pc' := 49) dX3_stepped_48 rfl rfl rfl ?_
    refine am_reti dX3_stepped_49 rfl ?_
    exact ⟨by unfold mt_st; rw [if_pos c_20_0], rfl, rfl⟩
  refine am_case (1) (fun c_20_1 => ?_) (fun c_20_1 => ?_)
  · refine am_look (pc' := 50) (off := 30) dX3_stepped_20 rfl rfl rfl ?_
    refine am_iload_n (pc' := 51) dX3_stepped_50 rfl rfl rfl ?_
    refine am_reti dX3_stepped_51 rfl ?_
    exact ⟨by unfold mt_st; rw [if_neg (by omega), if_pos c_20_1], rfl, rfl⟩
  refine am_look (pc' := 52) (off := 32) dX3_stepped_20 rfl (by simp [Op.lookupswitch.offset, Ne.symm, c_20_0, c_20_1]) rfl ?_
  refine am_iload_n (pc' := 53) dX3_stepped_52 rfl rfl rfl ?_
  refine am_iload_n (pc' := 54) dX3_stepped_53 rfl rfl rfl ?_
  refine am_iadd (pc' := 55) dX3_stepped_54 rfl ⟨by omega, by omega⟩ ?_
  refine am_aload_n (pc' := 56) dX3_stepped_55 rfl rfl rfl ?_
  refine am_getIk (ki := 0) (pc' := 59) (k := 0) (ci := 3) rfl dX3_stepped_56 rfl fl_X3_9 (by first | assumption | exact ⟨by omega, by omega, rfl⟩) rfl ?_
  refine am_icmp_ge (pc' := 62) (tgt := 68) dX3_stepped_59 rfl rfl (fun c_59 => ?_) (fun c_59 => ?_)
  · refine am_iload_n (pc' := 69) dX3_stepped_68 rfl rfl rfl ?_
    refine am_iload_n (pc' := 70) dX3_stepped_69 rfl rfl rfl ?_
    refine am_iadd (pc' := 71) dX3_stepped_70 rfl ⟨by omega, by omega⟩ ?_
    refine am_aload_n (pc' := 72) dX3_stepped_71 rfl rfl rfl ?_
    refine am_getIk (ki := 0) (pc' := 75) (k := 0) (ci := 3) rfl dX3_stepped_72 rfl fl_X3_9 (by first | assumption | exact ⟨by omega, by omega, rfl⟩) rfl ?_
    refine am_isub (pc' := 76) dX3_stepped_75 rfl ⟨by omega, by omega⟩ ?_
    refine am_reti dX3_stepped_76 rfl ?_
    exact ⟨by unfold mt_st; rw [if_neg c_20_0, if_neg c_20_1]; first | rw [if_pos (by omega)] | rw [if_neg (by omega)], rfl, rfl⟩
  · refine am_iload_n (pc' := 63) dX3_stepped_62 rfl rfl rfl ?_
    refine am_iload_n (pc' := 64) dX3_stepped_63 rfl rfl rfl ?_
    refine am_iadd (pc' := 65) dX3_stepped_64 rfl ⟨by omega, by omega⟩ ?_
    refine am_goto (pc' := 76) dX3_stepped_65 rfl ?_
    refine am_reti dX3_stepped_76 rfl ?_
    exact ⟨by unfold mt_st; rw [if_neg c_20_0, if_neg c_20_1]; first | rw [if_pos (by omega)] | rw [if_neg (by omega)], rfl, rfl⟩
theorem t_zeros_l {ρ h : am_H} {r : Int} {Q : am_Q} (hR : am_RA ρ r) (hO : 0 ≤ h r 1 ∧ h r 1 ≤ 5) (hq : Q (some (am_I (mt_sum (fun q => if h (r + 2) q = 0 then 1 else 0) (h r 1).toNat))) ρ h) : ∀ (n : Nat) (i c : Int), (h r 1 - i).toNat < n → 0 ≤ i → i ≤ h r 1 → 0 ≤ c → c ≤ i → c = mt_sum (fun q => if h (r + 2) q = 0 then 1 else 0) i.toNat → am_WP mX3_zeros 0 0 4 [some (am_R r), some (am_I c), some (am_I i)] [] ρ h Q := by
  obtain ⟨i1, i2, i3, i4, ⟨e1, e2, e3⟩, l1, l2, l3⟩ := hR
  have r0 := i1.1
  intro n
  induction n with
  | zero => intro i c hn; omega
  | succ n ih =>
    intro i c hn h0 h1 c0 c1 hc
    refine am_iload_n (pc' := 5) dX3_zeros_4 rfl rfl rfl ?_
    refine am_aload_n (pc' := 6) dX3_zeros_5 rfl rfl rfl ?_
    refine am_getIk (ki := 1) (pc' := 9) (k := 1) (ci := 3) rfl dX3_zeros_6 rfl fl_X3_15 (by first | assumption | exact ⟨by omega, by omega, rfl⟩) rfl ?_
    refine am_icmp_ge (pc' := 12) (tgt := 30) dX3_zeros_9 rfl rfl (fun c_9 => ?_) (fun c_9 => ?_)
    · refine am_iload_n (pc' := 31) dX3_zeros_30 rfl rfl rfl ?_
      refine am_reti dX3_zeros_31 rfl ?_
      have ei : i.toNat = (h r 1).toNat := by omega
      rw [hc, ei]; exact hq
    · refine am_aload_n (pc' := 13) dX3_zeros_12 rfl rfl rfl ?_
      refine am_getRk (ki := 3) (pc' := 16) (k := 3) (ci := 3) rfl dX3_zeros_13 rfl fl_X3_22 (by first | assumption | exact ⟨by omega, by omega, rfl⟩) rfl (by assumption) (by omega) ?_
      refine am_iload_n (pc' := 17) dX3_zeros_16 rfl rfl rfl ?_
      refine am_iaload (pc' := 18) dX3_zeros_17 rfl (by first | assumption | exact ⟨by omega, by omega, rfl⟩) (by omega) (by omega) ?_
      refine am_if_ne (pc' := 21) (tgt := 24) dX3_zeros_18 rfl rfl (fun c_18 => ?_) (fun c_18 => ?_)
      · refine am_iinc (pc' := 27) (ls' := [_, _, _]) dX3_zeros_24 rfl rfl ⟨by omega, by omega⟩ (Nat.le_of_ble_eq_true rfl) rfl rfl ?_
        refine am_goto (pc' := 4) dX3_zeros_27 rfl ?_
        exact ih _ _ (by omega) (by omega) (by omega) (by omega) (by omega) (by rw [mt_sum_next _ h0, hc]; simp [*])
      · refine am_iinc (pc' := 24) (ls' := [_, _, _]) dX3_zeros_21 rfl rfl ⟨by omega, by omega⟩ (Nat.le_of_ble_eq_true rfl) rfl rfl ?_
        refine am_iinc (pc' := 27) (ls' := [_, _, _]) dX3_zeros_24 rfl rfl ⟨by omega, by omega⟩ (Nat.le_of_ble_eq_true rfl) rfl rfl ?_
        refine am_goto (pc' := 4) dX3_zeros_27 rfl ?_
        exact ih _ _ (by omega) (by omega) (by omega) (by omega) (by omega) (by rw [mt_sum_next _ h0, hc]; simp [*])
theorem t_zeros {ρ h : am_H} {r : Int} (hR : am_RA ρ r) (hO : 0 ≤ h r 1 ∧ h r 1 ≤ 5) : am_CT mX3_zeros 0 0 [am_R r] ρ h (am_P (am_I (mt_sum (fun q => if h (r + 2) q = 0 then 1 else 0) (h r 1).toNat)) ρ h) := by
  refine am_ct (ls := [some (am_R r), none, none]) ok_X3_zeros rfl (fun _ => Nat.le_of_ble_eq_true rfl) (fun _ => rfl) (by intro v hv; simpa using hv) ?_
  refine am_iconst (pc' := 1) dX3_zeros_0 rfl rfl ?_
  refine am_istore_n (pc' := 2) (ls' := [_, _, _]) dX3_zeros_1 rfl rfl (Nat.le_of_ble_eq_true rfl) rfl rfl ?_
  refine am_iconst (pc' := 3) dX3_zeros_2 rfl rfl ?_
  refine am_istore_n (pc' := 4) (ls' := [_, _, _]) dX3_zeros_3 rfl rfl (Nat.le_of_ble_eq_true rfl) rfl rfl ?_
  exact t_zeros_l hR hO ⟨rfl, rfl, rfl⟩ ((h r 1).toNat + 1) 0 0 (by omega) (by omega) (by omega) (by omega) (by omega) rfl
theorem t_isOut {ρ h : am_H} {r : Int} (hR : am_RA ρ r) (hO : 0 ≤ h r 1 ∧ h r 1 ≤ 5) : am_CT mX3_isOut 0 0 [am_R r] ρ h (am_P (am_I (if mt_sum (fun q => if h (r + 2) q = 0 then 1 else 0) (h r 1).toNat = h r 1 then 1 else 0)) ρ h) := by
  obtain ⟨i1, i2, i3, i4, ⟨e1, e2, e3⟩, l1, l2, l3⟩ := id hR
  have r0 := i1.1
  refine am_ct (ls := [some (am_R r)]) ok_X3_isOut rfl (fun _ => Nat.le_of_ble_eq_true rfl) (fun _ => rfl) (by intro v hv; simpa using hv) ?_
  refine am_aload_n (pc' := 1) dX3_isOut_0 rfl rfl rfl ?_
  refine am_callVp (pc' := 4) (as := []) (ci := 3)  rfl dX3_isOut_1 rfl ok_X3_zeros ml_X3_69 im_X3_zeros se_X3_zeros rfl (Nat.le_of_ble_eq_true rfl) rfl (Nat.le_of_ble_eq_true rfl) (by first | assumption | exact ⟨by omega, by omega, rfl⟩) (t_zeros hR hO) ?_
  refine am_aload_n (pc' := 5) dX3_isOut_4 rfl rfl rfl ?_
  refine am_getIk (ki := 1) (pc' := 8) (k := 1) (ci := 3) rfl dX3_isOut_5 rfl fl_X3_15 (by first | assumption | exact ⟨by omega, by omega, rfl⟩) rfl ?_
  refine am_icmp_ne (pc' := 11) (tgt := 15) dX3_isOut_8 rfl rfl (fun c_8 => ?_) (fun c_8 => ?_)
  · refine am_iconst (pc' := 16) dX3_isOut_15 rfl rfl ?_
    refine am_retz dX3_isOut_16 rfl (by first | exact Or.inl rfl | exact Or.inr rfl | omega) ?_
    exact ⟨by simp [*], rfl, rfl⟩
  · refine am_iconst (pc' := 12) dX3_isOut_11 rfl rfl ?_
    refine am_goto (pc' := 16) dX3_isOut_12 rfl ?_
    refine am_retz dX3_isOut_16 rfl (by first | exact Or.inl rfl | exact Or.inr rfl | omega) ?_
    exact ⟨by simp [*], rfl, rfl⟩
theorem t_total_l {ρ h : am_H} {r : Int} {Q : am_Q} (hR : am_RA ρ r) (hO : am_RO h r) (hq : Q (some (am_I (mt_sum (h (r + 2)) (h r 1).toNat))) ρ h) : ∀ (n : Nat) (i c : Int), (h r 1 - i).toNat < n → 0 ≤ i → i ≤ h r 1 → 0 ≤ c → c ≤ 6 * i → c = mt_sum (h (r + 2)) i.toNat → am_WP mX3_total 0 0 4 [some (am_R r), some (am_I c), some (am_I i)] [] ρ h Q := by
  obtain ⟨i1, i2, i3, i4, ⟨e1, e2, e3⟩, l1, l2, l3⟩ := hR
  have r0 := i1.1
  obtain ⟨o1, o2, o3, o4, o5⟩ := id hO
  intro n
  induction n with
  | zero => intro i c hn; omega
  | succ n ih =>
    intro i c hn h0 h1 c0 c1 hc
    refine am_iload_n (pc' := 5) dX3_total_4 rfl rfl rfl ?_
    refine am_aload_n (pc' := 6) dX3_total_5 rfl rfl rfl ?_
    refine am_getIk (ki := 1) (pc' := 9) (k := 1) (ci := 3) rfl dX3_total_6 rfl fl_X3_15 (by first | assumption | exact ⟨by omega, by omega, rfl⟩) rfl ?_
    refine am_icmp_ge (pc' := 12) (tgt := 27) dX3_total_9 rfl rfl (fun c_9 => ?_) (fun c_9 => ?_)
    · refine am_iload_n (pc' := 28) dX3_total_27 rfl rfl rfl ?_
      refine am_reti dX3_total_28 rfl ?_
      have ei : i.toNat = (h r 1).toNat := by omega
      rw [hc, ei]; exact hq
    · have hp := o5 i h0 (by omega)
      refine am_iload_n (pc' := 13) dX3_total_12 rfl rfl rfl ?_
      refine am_aload_n (pc' := 14) dX3_total_13 rfl rfl rfl ?_
      refine am_getRk (ki := 3) (pc' := 17) (k := 3) (ci := 3) rfl dX3_total_14 rfl fl_X3_22 (by first | assumption | exact ⟨by omega, by omega, rfl⟩) rfl (by assumption) (by omega) ?_
      refine am_iload_n (pc' := 18) dX3_total_17 rfl rfl rfl ?_
      refine am_iaload (pc' := 19) dX3_total_18 rfl (by first | assumption | exact ⟨by omega, by omega, rfl⟩) (by omega) (by omega) ?_
      refine am_iadd (pc' := 20) dX3_total_19 rfl ⟨by omega, by omega⟩ ?_
      refine am_istore_n (pc' := 21) (ls' := [_, _, _]) dX3_total_20 rfl rfl (Nat.le_of_ble_eq_true rfl) rfl rfl ?_
      refine am_iinc (pc' := 24) (ls' := [_, _, _]) dX3_total_21 rfl rfl ⟨by omega, by omega⟩ (Nat.le_of_ble_eq_true rfl) rfl rfl ?_
      refine am_goto (pc' := 4) dX3_total_24 rfl ?_
      exact ih _ _ (by omega) (by omega) (by omega) (by omega) (by omega) (by rw [mt_sum_next _ h0, hc])
theorem t_total {ρ h : am_H} {r : Int} (hR : am_RA ρ r) (hO : am_RO h r) : am_CT mX3_total 0 0 [am_R r] ρ h (am_P (am_I (mt_sum (h (r + 2)) (h r 1).toNat)) ρ h) := by
  have o1 := hO.1
  refine am_ct (ls := [some (am_R r), none, none]) ok_X3_total rfl (fun _ => Nat.le_of_ble_eq_true rfl) (fun _ => rfl) (by intro v hv; simpa using hv) ?_
  refine am_iconst (pc' := 1) dX3_total_0 rfl rfl ?_
  refine am_istore_n (pc' := 2) (ls' := [_, _, _]) dX3_total_1 rfl rfl (Nat.le_of_ble_eq_true rfl) rfl rfl ?_
  refine am_iconst (pc' := 3) dX3_total_2 rfl rfl ?_
  refine am_istore_n (pc' := 4) (ls' := [_, _, _]) dX3_total_3 rfl rfl (Nat.le_of_ble_eq_true rfl) rfl rfl ?_
  exact t_total_l hR hO ⟨rfl, rfl, rfl⟩ ((h r 1).toNat + 1) 0 0 (by omega) (by omega) (by omega) (by omega) (by omega) rfl
theorem t_code_l {ρ h : am_H} {r : Int} {Q : am_Q} (hR : am_RA ρ r) (hO : am_RO h r) (hq : Q (some (am_I (mt_cd (h r 0) (h (r + 2)) (h r 1).toNat))) ρ h) : ∀ (n : Nat) (i c : Int), (h r 1 - i).toNat < n → 0 ≤ i → i ≤ h r 1 → c = mt_cd (h r 0) (h (r + 2)) i.toNat → am_WP mX3_code 0 0 4 [some (am_R r), some (am_I c), some (am_I i)] [] ρ h Q := by
  obtain ⟨i1, i2, i3, i4, ⟨e1, e2, e3⟩, l1, l2, l3⟩ := hR
  have r0 := i1.1
  obtain ⟨o1, o2, o3, o4, o5⟩ := id hO
  intro n
  induction n with
  | zero => intro i c hn; omega
  | succ n ih =>
    intro i c hn h0 h1 hc
    refine am_iload_n (pc' := 5) dX3_code_4 rfl rfl rfl ?_
    refine am_aload_n (pc' := 6) dX3_code_5 rfl rfl rfl ?_
    refine am_getIk (ki := 1) (pc' := 9) (k := 1) (ci := 3) rfl dX3_code_6 rfl fl_X3_15 (by first | assumption | exact ⟨by omega, by omega, rfl⟩) rfl ?_
    refine am_icmp_ge (pc' := 12) (tgt := 32) dX3_code_9 rfl rfl (fun c_9 => ?_) (fun c_9 => ?_)
    · refine am_iload_n (pc' := 33) dX3_code_32 rfl rfl rfl ?_
      refine am_reti dX3_code_33 rfl ?_
      have ei : i.toNat = (h r 1).toNat := by omega
      rw [hc, ei]; exact hq
    · have hp := o5 i h0 (by omega)
      have k1 := mt_cd_in (B := h r 0) (f := h (r + 2)) o3 (n := i.toNat) (fun p z0 z1 => o5 p z0 (by omega))
      have k2 := mt_pw_7776 o3 o4 i.toNat (by omega)
      rw [← hc] at k1
      have k3 : c * h r 0 ≤ c * 6 := Int.mul_le_mul_of_nonneg_left o4 k1.1
      have k4 : 0 ≤ c * h r 0 := Int.mul_nonneg k1.1 (by omega)
      refine am_iload_n (pc' := 13) dX3_code_12 rfl rfl rfl ?_
      refine am_aload_n (pc' := 14) dX3_code_13 rfl rfl rfl ?_
      refine am_getIk (ki := 0) (pc' := 17) (k := 0) (ci := 3) rfl dX3_code_14 rfl fl_X3_9 (by first | assumption | exact ⟨by omega, by omega, rfl⟩) rfl ?_
      refine am_imul (pc' := 18) dX3_code_17 rfl ⟨by omega, by omega⟩ ?_
      refine am_aload_n (pc' := 19) dX3_code_18 rfl rfl rfl ?_
      refine am_getRk (ki := 3) (pc' := 22) (k := 3) (ci := 3) rfl dX3_code_19 rfl fl_X3_22 (by first | assumption | exact ⟨by omega, by omega, rfl⟩) rfl (by assumption) (by omega) ?_
      refine am_iload_n (pc' := 23) dX3_code_22 rfl rfl rfl ?_
      refine am_iaload (pc' := 24) dX3_code_23 rfl (by first | assumption | exact ⟨by omega, by omega, rfl⟩) (by omega) (by omega) ?_
      refine am_iadd (pc' := 25) dX3_code_24 rfl ⟨by omega, by omega⟩ ?_
      refine am_istore_n (pc' := 26) (ls' := [_, _, _]) dX3_code_25 rfl rfl (Nat.le_of_ble_eq_true rfl) rfl rfl ?_
      refine am_iinc (pc' := 29) (ls' := [_, _, _]) dX3_code_26 rfl rfl ⟨by omega, by omega⟩ (Nat.le_of_ble_eq_true rfl) rfl rfl ?_
      refine am_goto (pc' := 4) dX3_code_29 rfl ?_
      exact ih _ _ (by omega) (by omega) (by omega) (by rw [mt_cd_next _ _ h0, hc])
theorem t_code {ρ h : am_H} {r : Int} (hR : am_RA ρ r) (hO : am_RO h r) : am_CT mX3_code 0 0 [am_R r] ρ h (am_P (am_I (mt_cd (h r 0) (h (r + 2)) (h r 1).toNat)) ρ h) := by
  have o1 := hO.1
  refine am_ct (ls := [some (am_R r), none, none]) ok_X3_code rfl (fun _ => Nat.le_of_ble_eq_true rfl) (fun _ => rfl) (by intro v hv; simpa using hv) ?_
  refine am_iconst (pc' := 1) dX3_code_0 rfl rfl ?_
  refine am_istore_n (pc' := 2) (ls' := [_, _, _]) dX3_code_1 rfl rfl (Nat.le_of_ble_eq_true rfl) rfl rfl ?_
  refine am_iconst (pc' := 3) dX3_code_2 rfl rfl ?_
  refine am_istore_n (pc' := 4) (ls' := [_, _, _]) dX3_code_3 rfl rfl (Nat.le_of_ble_eq_true rfl) rfl rfl ?_
  exact t_code_l hR hO ⟨rfl, rfl, rfl⟩ ((h r 1).toNat + 1) 0 0 (by omega) (by omega) (by omega) rfl
theorem t_steppedCode_l {ρ h : am_H} {r : Int} {Q : am_Q} (hR : am_RA ρ r) (hO : am_RO h r) (hq : Q (some (am_I (mt_cd (h r 0) (mt_st (h r 1) (h r 0) (h (r + 1)) (h (r + 2))) (h r 1).toNat))) ρ h) : ∀ (n : Nat) (i c : Int), (h r 1 - i).toNat < n → 0 ≤ i → i ≤ h r 1 → c = mt_cd (h r 0) (mt_st (h r 1) (h r 0) (h (r + 1)) (h (r + 2))) i.toNat → am_WP mX3_steppedCode 0 0 4 [some (am_R r), some (am_I c), some (am_I i)] [] ρ h Q := by
  obtain ⟨i1, i2, i3, i4, ⟨e1, e2, e3⟩, l1, l2, l3⟩ := id hR
  have r0 := i1.1
  obtain ⟨o1, o2, o3, o4, o5⟩ := id hO
  intro n
  induction n with
  | zero => intro i c hn; omega
  | succ n ih =>
    intro i c hn h0 h1 hc
    refine am_iload_n (pc' := 5) dX3_steppedCode_4 rfl rfl rfl ?_
    refine am_aload_n (pc' := 6) dX3_steppedCode_5 rfl rfl rfl ?_
    refine am_getIk (ki := 1) (pc' := 9) (k := 1) (ci := 3) rfl dX3_steppedCode_6 rfl fl_X3_15 (by first | assumption | exact ⟨by omega, by omega, rfl⟩) rfl ?_
    refine am_icmp_ge (pc' := 12) (tgt := 31) dX3_steppedCode_9 rfl rfl (fun c_9 => ?_) (fun c_9 => ?_)
    · refine am_iload_n (pc' := 32) dX3_steppedCode_31 rfl rfl rfl ?_
      refine am_reti dX3_steppedCode_32 rfl ?_
      have ei : i.toNat = (h r 1).toNat := by omega
      rw [hc, ei]; exact hq
    · have hp := mt_st_in (kd := h (r + 1)) o1 o5 h0 (by omega)
      have k1 := mt_cd_in (B := h r 0) (f := mt_st (h r 1) (h r 0) (h (r + 1)) (h (r + 2))) o3 (n := i.toNat) (fun p z0 z1 => mt_st_in o1 o5 z0 (by omega))
      have k2 := mt_pw_7776 o3 o4 i.toNat (by omega)
      rw [← hc] at k1
      have k3 : c * h r 0 ≤ c * 6 := Int.mul_le_mul_of_nonneg_left o4 k1.1
      have k4 : 0 ≤ c * h r 0 := Int.mul_nonneg k1.1 (by omega)
      refine am_iload_n (pc' := 13) dX3_steppedCode_12 rfl rfl rfl ?_
      refine am_aload_n (pc' := 14) dX3_steppedCode_13 rfl rfl rfl ?_
      refine am_getIk (ki := 0) (pc' := 17) (k := 0) (ci := 3) rfl dX3_steppedCode_14 rfl fl_X3_9 (by first | assumption | exact ⟨by omega, by omega, rfl⟩) rfl ?_
      refine am_imul (pc' := 18) dX3_steppedCode_17 rfl ⟨by omega, by omega⟩ ?_
      refine am_aload_n (pc' := 19) dX3_steppedCode_18 rfl rfl rfl ?_
      refine am_iload_n (pc' := 20) dX3_steppedCode_19 rfl rfl rfl ?_
      refine am_callVp (pc' := 23) (as := [_]) (ci := 3)  rfl dX3_steppedCode_20 rfl ok_X3_stepped ml_X3_66 im_X3_stepped se_X3_stepped rfl (Nat.le_of_ble_eq_true rfl) rfl (Nat.le_of_ble_eq_true rfl) (by first | assumption | exact ⟨by omega, by omega, rfl⟩) (t_stepped hR hO h0 (by omega)) ?_
      refine am_iadd (pc' := 24) dX3_steppedCode_23 rfl ⟨by omega, by omega⟩ ?_
      refine am_istore_n (pc' := 25) (ls' := [_, _, _]) dX3_steppedCode_24 rfl rfl (Nat.le_of_ble_eq_true rfl) rfl rfl ?_
      refine am_iinc (pc' := 28) (ls' := [_, _, _]) dX3_steppedCode_25 rfl rfl ⟨by omega, by omega⟩ (Nat.le_of_ble_eq_true rfl) rfl rfl ?_
      refine am_goto (pc' := 4) dX3_steppedCode_28 rfl ?_
      exact ih _ _ (by omega) (by omega) (by omega) (by rw [mt_cd_next _ _ h0, hc])
theorem t_steppedCode {ρ h : am_H} {r : Int} (hR : am_RA ρ r) (hO : am_RO h r) : am_CT mX3_steppedCode 0 0 [am_R r] ρ h (am_P (am_I (mt_cd (h r 0) (mt_st (h r 1) (h r 0) (h (r + 1)) (h (r + 2))) (h r 1).toNat)) ρ h) := by
  have o1 := hO.1
  refine am_ct (ls := [some (am_R r), none, none]) ok_X3_steppedCode rfl (fun _ => Nat.le_of_ble_eq_true rfl) (fun _ => rfl) (by intro v hv; simpa using hv) ?_
  refine am_iconst (pc' := 1) dX3_steppedCode_0 rfl rfl ?_
  refine am_istore_n (pc' := 2) (ls' := [_, _, _]) dX3_steppedCode_1 rfl rfl (Nat.le_of_ble_eq_true rfl) rfl rfl ?_
  refine am_iconst (pc' := 3) dX3_steppedCode_2 rfl rfl ?_
  refine am_istore_n (pc' := 4) (ls' := [_, _, _]) dX3_steppedCode_3 rfl rfl (Nat.le_of_ble_eq_true rfl) rfl rfl ?_
  exact t_steppedCode_l hR hO ⟨rfl, rfl, rfl⟩ ((h r 1).toNat + 1) 0 0 (by omega) (by omega) (by omega) rfl
