/-! the model: plain methods -/
theorem t8_ofPlace {ρ h : am_H} {p w : Int} (hM : am_LM ρ) (hR : md_R h) : am_CT mX8_ofPlace 0 0 [am_R 38, am_I p, am_I w] ρ h (fun r ρ' h' => r = some (am_I (o_ofPlace (h 38 1) (h 38 2) (h 39) (h 40) p w)) ∧ ρ' = ρ ∧ md_fr h h') := by
  have hn58 := hM.1
  have hP5 := (md_P5 hR).1
  have e2 := am_lm hM 38 4 39 (by decide)
  have e3 := am_lm hM 38 5 40 (by decide)
  have l2 := am_lm hM 39 (-1) 5 (by decide)
  have l3 := am_lm hM 40 (-1) 5 (by decide)
  refine am_ct (ls := [some (am_R 38), some (am_I p), some (am_I w)]) ok_X8_ofPlace rfl (fun _ => Nat.le_of_ble_eq_true rfl) (fun _ => rfl) (by intro v hv; simpa using hv) ?_
  unfold o_ofPlace
  refine am_aload_n (pc' := 1) dX8_ofPlace_0 rfl rfl rfl ?_
  refine am_iload_n (pc' := 2) dX8_ofPlace_1 rfl rfl rfl ?_
  refine am_callVp (pc' := 5) (as := [_]) (ci := 7)  rfl dX8_ofPlace_2 rfl ok_X8_noPlace ml_X8_149 im_X8_noPlace se_X8_noPlace rfl (Nat.le_of_ble_eq_true rfl) rfl (Nat.le_of_ble_eq_true rfl) (by first | assumption | exact ⟨by omega, by omega, rfl⟩) (t8_noPlace hM hP5) ?_
  refine am_if_eq (pc' := 8) (tgt := 10) dX8_ofPlace_5 rfl rfl (fun c_5 => ?_) (fun c_5 => ?_)
  · simp only [am_z0, am_z1, ne_eq] at c_5
    refine am_aload_n (pc' := 11) dX8_ofPlace_10 rfl rfl rfl ?_
    refine am_callV0 (pc' := 14) (as := []) (ci := 7)  rfl dX8_ofPlace_11 rfl ok_X8_takesNow ml_X8_142 im_X8_takesNow se_X8_takesNow rfl (Nat.le_of_ble_eq_true rfl) rfl (Nat.le_of_ble_eq_true rfl) (by first | assumption | exact ⟨by omega, by omega, rfl⟩) (t8_takesNow hM hP5) (fun r_11 ρ_11 h_11 q_11 g_11 e_11 => ?_)
    obtain ⟨rfl, rfl, q1, q2⟩ := q_11
    have hpp : 0 ≤ p ∧ p < h 38 1 := by omega
    obtain ⟨hA, hnm, hkd⟩ := md_RA hR (show h 38 1 ≠ 0 by omega)
    have g1 : ∀ k, h_11 38 k = h 38 k := fun k => q1 38 k (by simp <;> omega)
    have g3 : h_11 39 = h 39 := funext fun k => q1 39 k (by simp <;> omega)
    have g4 : h_11 40 = h 40 := funext fun k => q1 40 k (by simp <;> omega)
    have hfr : md_fr h h_11 := md_fr_43 (am_fr_sub q1 (by intro x hx; simp at hx ⊢; omega))
    refine am_iload_n (pc' := 15) dX8_ofPlace_14 rfl rfl rfl ?_
    refine am_if_ne (pc' := 18) (tgt := 27) dX8_ofPlace_15 rfl rfl (fun c_15 => ?_) (fun c_15 => ?_)
    · refine am_iload_n (pc' := 28) dX8_ofPlace_27 rfl rfl rfl ?_
      refine am_iconst (pc' := 29) dX8_ofPlace_28 rfl rfl ?_
      refine am_icmp_ne (pc' := 32) (tgt := 41) dX8_ofPlace_29 rfl rfl (fun c_29 => ?_) (fun c_29 => ?_)
      · refine am_iload_n (pc' := 42) dX8_ofPlace_41 rfl rfl rfl ?_
        refine am_iconst (pc' := 43) dX8_ofPlace_42 rfl rfl ?_
        refine am_icmp_ne (pc' := 46) (tgt := 54) dX8_ofPlace_43 rfl rfl (fun c_43 => ?_) (fun c_43 => ?_)
        · refine am_bipush (pc' := 56) dX8_ofPlace_54 rfl rfl (by decide) ?_
          refine am_reti dX8_ofPlace_56 rfl ?_
          first | exact ⟨by rw [if_neg (by omega)], rfl, md_fr_r⟩ | exact ⟨by rw [if_pos hpp, if_pos (by omega), g3], rfl, hfr⟩ | exact ⟨by rw [if_pos hpp, if_neg (by omega), if_pos (by omega), g4], rfl, hfr⟩ | exact ⟨by rw [if_pos hpp, if_neg (by omega), if_neg (by omega), if_pos (by omega), g1, g1, g3]; exact congrArg (fun z => some (am_I z)) (mt_st_eq hA.1.1 (fun _ _ _ => rfl) q2 p hpp.1 hpp.2), rfl, hfr⟩ | exact ⟨by rw [if_pos hpp, if_neg (by omega), if_neg (by omega), if_neg (by omega)], rfl, hfr⟩ | fail
        · refine am_aload_n (pc' := 47) dX8_ofPlace_46 rfl rfl rfl ?_
          refine am_iload_n (pc' := 48) dX8_ofPlace_47 rfl rfl rfl ?_
          refine am_callVp (pc' := 51) (as := [_]) (ci := 7)  rfl dX8_ofPlace_48 rfl ok_X8_becomes ml_X8_139 im_X8_becomes se_X8_becomes rfl (Nat.le_of_ble_eq_true rfl) rfl (Nat.le_of_ble_eq_true rfl) (by first | assumption | exact ⟨by omega, by omega, rfl⟩) (t8_becomes (h := h_11) hM (by unfold md_A; rw [g1, g1]; exact hA) (fun q a b => by rw [g1] at b; rw [q2 q a b, g1]; exact hnm q a b) (by rw [g1]; exact hpp)) ?_
          refine am_goto (pc' := 56) dX8_ofPlace_51 rfl ?_
          refine am_reti dX8_ofPlace_56 rfl ?_
          first | exact ⟨by rw [if_neg (by omega)], rfl, md_fr_r⟩ | exact ⟨by rw [if_pos hpp, if_pos (by omega), g3], rfl, hfr⟩ | exact ⟨by rw [if_pos hpp, if_neg (by omega), if_pos (by omega), g4], rfl, hfr⟩ | exact ⟨by rw [if_pos hpp, if_neg (by omega), if_neg (by omega), if_pos (by omega), g1, g1, g3]; exact congrArg (fun z => some (am_I z)) (mt_st_eq hA.1.1 (fun _ _ _ => rfl) q2 p hpp.1 hpp.2), rfl, hfr⟩ | exact ⟨by rw [if_pos hpp, if_neg (by omega), if_neg (by omega), if_neg (by omega)], rfl, hfr⟩ | fail
      · refine am_aload_n (pc' := 33) dX8_ofPlace_32 rfl rfl rfl ?_
        refine am_getRk (ki := 5) (pc' := 36) (k := 5) (ci := 7) rfl dX8_ofPlace_33 rfl fl_X8_13 (by first | assumption | exact ⟨by omega, by omega, rfl⟩) rfl (by assumption) (by omega) ?_
        refine am_iload_n (pc' := 37) dX8_ofPlace_36 rfl rfl rfl ?_
        refine am_iaload (pc' := 38) dX8_ofPlace_37 rfl (by first | assumption | exact ⟨by omega, by omega, rfl⟩) (by omega) (by omega) ?_
        refine am_goto (pc' := 56) dX8_ofPlace_38 rfl ?_
        refine am_reti dX8_ofPlace_56 rfl ?_
        first | exact ⟨by rw [if_neg (by omega)], rfl, md_fr_r⟩ | exact ⟨by rw [if_pos hpp, if_pos (by omega), g3], rfl, hfr⟩ | exact ⟨by rw [if_pos hpp, if_neg (by omega), if_pos (by omega), g4], rfl, hfr⟩ | exact ⟨by rw [if_pos hpp, if_neg (by omega), if_neg (by omega), if_pos (by omega), g1, g1, g3]; exact congrArg (fun z => some (am_I z)) (mt_st_eq hA.1.1 (fun _ _ _ => rfl) q2 p hpp.1 hpp.2), rfl, hfr⟩ | exact ⟨by rw [if_pos hpp, if_neg (by omega), if_neg (by omega), if_neg (by omega)], rfl, hfr⟩ | fail
    · refine am_aload_n (pc' := 19) dX8_ofPlace_18 rfl rfl rfl ?_
      refine am_getRk (ki := 4) (pc' := 22) (k := 4) (ci := 7) rfl dX8_ofPlace_19 rfl fl_X8_7 (by first | assumption | exact ⟨by omega, by omega, rfl⟩) rfl (by assumption) (by omega) ?_
      refine am_iload_n (pc' := 23) dX8_ofPlace_22 rfl rfl rfl ?_
      refine am_iaload (pc' := 24) dX8_ofPlace_23 rfl (by first | assumption | exact ⟨by omega, by omega, rfl⟩) (by omega) (by omega) ?_
      refine am_goto (pc' := 56) dX8_ofPlace_24 rfl ?_
      refine am_reti dX8_ofPlace_56 rfl ?_
      first | exact ⟨by rw [if_neg (by omega)], rfl, md_fr_r⟩ | exact ⟨by rw [if_pos hpp, if_pos (by omega), g3], rfl, hfr⟩ | exact ⟨by rw [if_pos hpp, if_neg (by omega), if_pos (by omega), g4], rfl, hfr⟩ | exact ⟨by rw [if_pos hpp, if_neg (by omega), if_neg (by omega), if_pos (by omega), g1, g1, g3]; exact congrArg (fun z => some (am_I z)) (mt_st_eq hA.1.1 (fun _ _ _ => rfl) q2 p hpp.1 hpp.2), rfl, hfr⟩ | exact ⟨by rw [if_pos hpp, if_neg (by omega), if_neg (by omega), if_neg (by omega)], rfl, hfr⟩ | fail
  · simp only [am_z0, am_z1, ne_eq] at c_5
    refine am_iconst (pc' := 9) dX8_ofPlace_8 rfl rfl ?_
    refine am_reti dX8_ofPlace_9 rfl ?_
    first | exact ⟨by rw [if_neg (by omega)], rfl, md_fr_r⟩ | exact ⟨by rw [if_pos hpp, if_pos (by omega), g3], rfl, hfr⟩ | exact ⟨by rw [if_pos hpp, if_neg (by omega), if_pos (by omega), g4], rfl, hfr⟩ | exact ⟨by rw [if_pos hpp, if_neg (by omega), if_neg (by omega), if_pos (by omega), g1, g1, g3]; exact congrArg (fun z => some (am_I z)) (mt_st_eq hA.1.1 (fun _ _ _ => rfl) q2 p hpp.1 hpp.2), rfl, hfr⟩ | exact ⟨by rw [if_pos hpp, if_neg (by omega), if_neg (by omega), if_neg (by omega)], rfl, hfr⟩ | fail
theorem t8_write {ρ h : am_H} {p v : Int} (hM : am_LM ρ) (hR : md_R h) : am_CT mX8_write 0 0 [am_R 38, am_I p, am_I v] ρ h (fun r ρ' h' => r = some (am_I (o_write (h 38 1) (h 38 2) (h 40) p v)) ∧ ρ' = ρ ∧ h' = if (0 ≤ p ∧ p < h 38 1) ∧ 0 ≤ v ∧ v < h 38 2 then am_u h 40 p v else h) := by
  have hn58 := hM.1
  have hP5 := md_P5 hR
  have e3 := am_lm hM 38 5 40 (by decide)
  have l3 := am_lm hM 40 (-1) 5 (by decide)
  refine am_ct (ls := [some (am_R 38), some (am_I p), some (am_I v), none]) ok_X8_write rfl (fun _ => Nat.le_of_ble_eq_true rfl) (fun _ => rfl) (by intro v hv; simpa using hv) ?_
  unfold o_write
  refine am_aload_n (pc' := 1) dX8_write_0 rfl rfl rfl ?_
  refine am_iload_n (pc' := 2) dX8_write_1 rfl rfl rfl ?_
  refine am_callVp (pc' := 5) (as := [_]) (ci := 7)  rfl dX8_write_2 rfl ok_X8_noPlace ml_X8_149 im_X8_noPlace se_X8_noPlace rfl (Nat.le_of_ble_eq_true rfl) rfl (Nat.le_of_ble_eq_true rfl) (by first | assumption | exact ⟨by omega, by omega, rfl⟩) (t8_noPlace hM hP5.1) ?_
  refine am_if_eq (pc' := 8) (tgt := 10) dX8_write_5 rfl rfl (fun c_5 => ?_) (fun c_5 => ?_)
  · simp only [am_z0, am_z1, ne_eq] at c_5
    refine am_aload_n (pc' := 11) dX8_write_10 rfl rfl rfl ?_
    refine am_iload_n (pc' := 12) dX8_write_11 rfl rfl rfl ?_
    refine am_callVp (pc' := 15) (as := [_]) (ci := 7)  rfl dX8_write_12 rfl ok_X8_isNumber ml_X8_152 im_X8_isNumber se_X8_isNumber rfl (Nat.le_of_ble_eq_true rfl) rfl (Nat.le_of_ble_eq_true rfl) (by first | assumption | exact ⟨by omega, by omega, rfl⟩) (t8_isNumber hM hP5.2) ?_
    refine am_if_ne (pc' := 18) (tgt := 21) dX8_write_15 rfl rfl (fun c_15 => ?_) (fun c_15 => ?_)
    · simp only [am_z0, am_z1, ne_eq] at c_15
      refine am_aload_n (pc' := 22) dX8_write_21 rfl rfl rfl ?_
      refine am_getRk (ki := 5) (pc' := 25) (k := 5) (ci := 7) rfl dX8_write_22 rfl fl_X8_13 (by first | assumption | exact ⟨by omega, by omega, rfl⟩) rfl (by assumption) (by omega) ?_
      refine am_iload_n (pc' := 26) dX8_write_25 rfl rfl rfl ?_
      refine am_iaload (pc' := 27) dX8_write_26 rfl (by first | assumption | exact ⟨by omega, by omega, rfl⟩) (by omega) (by omega) ?_
      refine am_istore_n (pc' := 28) (ls' := [_, _, _, _]) dX8_write_27 rfl rfl (Nat.le_of_ble_eq_true rfl) rfl rfl ?_
      refine am_aload_n (pc' := 29) dX8_write_28 rfl rfl rfl ?_
      refine am_getRk (ki := 5) (pc' := 32) (k := 5) (ci := 7) rfl dX8_write_29 rfl fl_X8_13 (by first | assumption | exact ⟨by omega, by omega, rfl⟩) rfl (by assumption) (by omega) ?_
      refine am_iload_n (pc' := 33) dX8_write_32 rfl rfl rfl ?_
      refine am_iload_n (pc' := 34) dX8_write_33 rfl rfl rfl ?_
      refine am_iastore (pc' := 35) dX8_write_34 rfl (by first | assumption | exact ⟨by omega, by omega, rfl⟩) (by omega) (by omega) ?_
      refine am_iload_n (pc' := 36) dX8_write_35 rfl rfl rfl ?_
      refine am_reti dX8_write_36 rfl ?_
      first | exact ⟨by rw [if_neg (by omega)], rfl, by rw [if_neg (by omega)]⟩ | exact ⟨by rw [if_pos (by omega), if_neg (by omega)], rfl, by rw [if_neg (by omega)]⟩ | exact ⟨by rw [if_pos (by omega), if_pos (by omega)], rfl, by rw [if_pos (by omega)]⟩ | fail
    · simp only [am_z0, am_z1, ne_eq] at c_15
      refine am_bipush (pc' := 20) dX8_write_18 rfl rfl (by decide) ?_
      refine am_reti dX8_write_20 rfl ?_
      first | exact ⟨by rw [if_neg (by omega)], rfl, by rw [if_neg (by omega)]⟩ | exact ⟨by rw [if_pos (by omega), if_neg (by omega)], rfl, by rw [if_neg (by omega)]⟩ | exact ⟨by rw [if_pos (by omega), if_pos (by omega)], rfl, by rw [if_pos (by omega)]⟩ | fail
  · simp only [am_z0, am_z1, ne_eq] at c_5
    refine am_iconst (pc' := 9) dX8_write_8 rfl rfl ?_
    refine am_reti dX8_write_9 rfl ?_
    first | exact ⟨by rw [if_neg (by omega)], rfl, by rw [if_neg (by omega)]⟩ | exact ⟨by rw [if_pos (by omega), if_neg (by omega)], rfl, by rw [if_neg (by omega)]⟩ | exact ⟨by rw [if_pos (by omega), if_pos (by omega)], rfl, by rw [if_pos (by omega)]⟩ | fail
theorem t8_call {ρ h : am_H} {p : Int} (hM : am_LM ρ) (hR : md_R h) : am_CT mX8_call 0 0 [am_R 38, am_I p] ρ h (fun r ρ' h' => r = some (am_I (if 0 ≤ p ∧ p < h 38 1 then (if h 39 p = 2 then 60 else p) else -1)) ∧ ρ' = ρ ∧ h' = am_u h 38 31 (if 0 ≤ p ∧ p < h 38 1 then o_lv (h 38 31) (if h 39 p = 2 then 5 else 4) else h 38 31)) := by
  have hn58 := hM.1
  have hP5 := md_P5 hR
  have e3 := am_lm hM 38 4 39 (by decide)
  have l3 := am_lm hM 39 (-1) 5 (by decide)
  have u9 : ∀ v, am_u h 38 31 v 39 p = h 39 p := fun v => am_u_n (by omega)
  refine am_ct (ls := [some (am_R 38), some (am_I p)]) ok_X8_call rfl (fun _ => Nat.le_of_ble_eq_true rfl) (fun _ => rfl) (by intro v hv; simpa using hv) ?_
  refine am_aload_n (pc' := 1) dX8_call_0 rfl rfl rfl ?_
  refine am_iload_n (pc' := 2) dX8_call_1 rfl rfl rfl ?_
  refine am_callVp (pc' := 5) (as := [_]) (ci := 7)  rfl dX8_call_2 rfl ok_X8_noPlace ml_X8_149 im_X8_noPlace se_X8_noPlace rfl (Nat.le_of_ble_eq_true rfl) rfl (Nat.le_of_ble_eq_true rfl) (by first | assumption | exact ⟨by omega, by omega, rfl⟩) (t8_noPlace hM hP5.1) ?_
  refine am_if_eq (pc' := 8) (tgt := 10) dX8_call_5 rfl rfl (fun c_5 => ?_) (fun c_5 => ?_)
  · simp only [am_z0, am_z1, ne_eq] at c_5
    refine am_aload_n (pc' := 11) dX8_call_10 rfl rfl rfl ?_
    refine am_aload_n (pc' := 12) dX8_call_11 rfl rfl rfl ?_
    refine am_getRk (ki := 4) (pc' := 15) (k := 4) (ci := 7) rfl dX8_call_12 rfl fl_X8_7 (by first | assumption | exact ⟨by omega, by omega, rfl⟩) rfl (by assumption) (by omega) ?_
    refine am_iload_n (pc' := 16) dX8_call_15 rfl rfl rfl ?_
    refine am_iaload (pc' := 17) dX8_call_16 rfl (by first | assumption | exact ⟨by omega, by omega, rfl⟩) (by omega) (by omega) ?_
    refine am_iconst (pc' := 18) dX8_call_17 rfl rfl ?_
    refine am_icmp_ne (pc' := 21) (tgt := 25) dX8_call_18 rfl rfl (fun c_18 => ?_) (fun c_18 => ?_)
    · refine am_iconst (pc' := 26) dX8_call_25 rfl rfl ?_
      refine am_callV0 (pc' := 29) (as := [_]) (ci := 7)  rfl dX8_call_26 rfl ok_X8_traced ml_X8_266 im_X8_traced se_X8_traced rfl (Nat.le_of_ble_eq_true rfl) rfl (Nat.le_of_ble_eq_true rfl) (by first | assumption | exact ⟨by omega, by omega, rfl⟩) (t8_traced hM) (fun r_26 ρ_26 h_26 q_26 g_26 e_26 => ?_)
      obtain ⟨rfl, rfl, rfl⟩ := q_26
      refine am_aload_n (pc' := 30) dX8_call_29 rfl rfl rfl ?_
      refine am_getRk (ki := 4) (pc' := 33) (k := 4) (ci := 7) rfl dX8_call_30 rfl fl_X8_7 (by first | assumption | exact ⟨by omega, by omega, rfl⟩) rfl (by assumption) (by omega) ?_
      refine am_iload_n (pc' := 34) dX8_call_33 rfl rfl rfl ?_
      refine am_iaload (pc' := 35) dX8_call_34 rfl (by first | assumption | exact ⟨by omega, by omega, rfl⟩) (by omega) (by omega) ?_
      refine am_iconst (pc' := 36) dX8_call_35 rfl rfl ?_
      refine am_icmp_ne (pc' := 39) (tgt := 44) dX8_call_36 rfl rfl (fun c_36 => ?_) (fun c_36 => ?_)
      · refine am_iload_n (pc' := 45) dX8_call_44 rfl rfl rfl ?_
        refine am_reti dX8_call_45 rfl ?_
        first | (exfalso; rw [u9] at c_36; omega) | exact ⟨by rw [if_neg (by omega)], rfl, by rw [if_neg (by omega), am_uid]⟩ | (rw [u9] at c_36; exact ⟨by rw [if_pos (by omega), if_pos (by omega)], rfl, by rw [if_pos (by omega), if_pos (by omega)]⟩) | (rw [u9] at c_36; exact ⟨by rw [if_pos (by omega), if_neg (by omega)], rfl, by rw [if_pos (by omega), if_neg (by omega)]⟩) | (exfalso; rw [u9] at c_36; omega) | fail
      · refine am_bipush (pc' := 41) dX8_call_39 rfl rfl (by decide) ?_
        refine am_goto (pc' := 45) dX8_call_41 rfl ?_
        refine am_reti dX8_call_45 rfl ?_
        first | (exfalso; rw [u9] at c_36; omega) | exact ⟨by rw [if_neg (by omega)], rfl, by rw [if_neg (by omega), am_uid]⟩ | (rw [u9] at c_36; exact ⟨by rw [if_pos (by omega), if_pos (by omega)], rfl, by rw [if_pos (by omega), if_pos (by omega)]⟩) | (rw [u9] at c_36; exact ⟨by rw [if_pos (by omega), if_neg (by omega)], rfl, by rw [if_pos (by omega), if_neg (by omega)]⟩) | (exfalso; rw [u9] at c_36; omega) | fail
    · refine am_iconst (pc' := 22) dX8_call_21 rfl rfl ?_
      refine am_goto (pc' := 26) dX8_call_22 rfl ?_
      refine am_callV0 (pc' := 29) (as := [_]) (ci := 7)  rfl dX8_call_26 rfl ok_X8_traced ml_X8_266 im_X8_traced se_X8_traced rfl (Nat.le_of_ble_eq_true rfl) rfl (Nat.le_of_ble_eq_true rfl) (by first | assumption | exact ⟨by omega, by omega, rfl⟩) (t8_traced hM) (fun r_26 ρ_26 h_26 q_26 g_26 e_26 => ?_)
      obtain ⟨rfl, rfl, rfl⟩ := q_26
      refine am_aload_n (pc' := 30) dX8_call_29 rfl rfl rfl ?_
      refine am_getRk (ki := 4) (pc' := 33) (k := 4) (ci := 7) rfl dX8_call_30 rfl fl_X8_7 (by first | assumption | exact ⟨by omega, by omega, rfl⟩) rfl (by assumption) (by omega) ?_
      refine am_iload_n (pc' := 34) dX8_call_33 rfl rfl rfl ?_
      refine am_iaload (pc' := 35) dX8_call_34 rfl (by first | assumption | exact ⟨by omega, by omega, rfl⟩) (by omega) (by omega) ?_
      refine am_iconst (pc' := 36) dX8_call_35 rfl rfl ?_
      refine am_icmp_ne (pc' := 39) (tgt := 44) dX8_call_36 rfl rfl (fun c_36 => ?_) (fun c_36 => ?_)
      · refine am_iload_n (pc' := 45) dX8_call_44 rfl rfl rfl ?_
        refine am_reti dX8_call_45 rfl ?_
        first | (exfalso; rw [u9] at c_36; omega) | exact ⟨by rw [if_neg (by omega)], rfl, by rw [if_neg (by omega), am_uid]⟩ | (rw [u9] at c_36; exact ⟨by rw [if_pos (by omega), if_pos (by omega)], rfl, by rw [if_pos (by omega), if_pos (by omega)]⟩) | (rw [u9] at c_36; exact ⟨by rw [if_pos (by omega), if_neg (by omega)], rfl, by rw [if_pos (by omega), if_neg (by omega)]⟩) | (exfalso; rw [u9] at c_36; omega) | fail
      · refine am_bipush (pc' := 41) dX8_call_39 rfl rfl (by decide) ?_
        refine am_goto (pc' := 45) dX8_call_41 rfl ?_
        refine am_reti dX8_call_45 rfl ?_
        first | (exfalso; rw [u9] at c_36; omega) | exact ⟨by rw [if_neg (by omega)], rfl, by rw [if_neg (by omega), am_uid]⟩ | (rw [u9] at c_36; exact ⟨by rw [if_pos (by omega), if_pos (by omega)], rfl, by rw [if_pos (by omega), if_pos (by omega)]⟩) | (rw [u9] at c_36; exact ⟨by rw [if_pos (by omega), if_neg (by omega)], rfl, by rw [if_pos (by omega), if_neg (by omega)]⟩) | (exfalso; rw [u9] at c_36; omega) | fail
  · simp only [am_z0, am_z1, ne_eq] at c_5
    refine am_iconst (pc' := 9) dX8_call_8 rfl rfl ?_
    refine am_reti dX8_call_9 rfl ?_
    first | (exfalso; rw [u9] at c_36; omega) | exact ⟨by rw [if_neg (by omega)], rfl, by rw [if_neg (by omega), am_uid]⟩ | (rw [u9] at c_36; exact ⟨by rw [if_pos (by omega), if_pos (by omega)], rfl, by rw [if_pos (by omega), if_pos (by omega)]⟩) | (rw [u9] at c_36; exact ⟨by rw [if_pos (by omega), if_neg (by omega)], rfl, by rw [if_pos (by omega), if_neg (by omega)]⟩) | (exfalso; rw [u9] at c_36; omega) | fail
theorem t8_as {ρ h : am_H} {p k : Int} (hM : am_LM ρ) (hR : md_R h) : am_CT mX8_as 0 0 [am_R 38, am_I p, am_I k] ρ h (fun r ρ' h' => r = some (am_I (if 0 ≤ p ∧ p < h 38 1 then (if 0 ≤ k ∧ k ≤ 2 then (if k ≤ h 39 p then 1 else -12) else -2) else -1)) ∧ ρ' = ρ ∧ h' = am_u h 38 0 (if (0 ≤ p ∧ p < h 38 1) ∧ (0 ≤ k ∧ k ≤ 2) ∧ h 39 p < k then 2 else 0)) := by
  have hn58 := hM.1
  have hP5 := md_P5 hR
  have e3 := am_lm hM 38 4 39 (by decide)
  have l3 := am_lm hM 39 (-1) 5 (by decide)
  refine am_ct (ls := [some (am_R 38), some (am_I p), some (am_I k)]) ok_X8_as rfl (fun _ => Nat.le_of_ble_eq_true rfl) (fun _ => rfl) (by intro v hv; simpa using hv) ?_
  refine am_aload_n (pc' := 1) dX8_as_0 rfl rfl rfl ?_
  refine am_iload_n (pc' := 2) dX8_as_1 rfl rfl rfl ?_
  refine am_callVp (pc' := 5) (as := [_]) (ci := 7)  rfl dX8_as_2 rfl ok_X8_noPlace ml_X8_149 im_X8_noPlace se_X8_noPlace rfl (Nat.le_of_ble_eq_true rfl) rfl (Nat.le_of_ble_eq_true rfl) (by first | assumption | exact ⟨by omega, by omega, rfl⟩) (t8_noPlace hM hP5.1) ?_
  refine am_if_eq (pc' := 8) (tgt := 14) dX8_as_5 rfl rfl (fun c_5 => ?_) (fun c_5 => ?_)
  · simp only [am_z0, am_z1, ne_eq] at c_5
    refine am_iload_n (pc' := 15) dX8_as_14 rfl rfl rfl ?_
    refine am_i2l (pc' := 16) dX8_as_15 rfl ?_
    refine am_lconst0 (pc' := 17) dX8_as_16 rfl ?_
    refine am_ldc2 (pc' := 20) (x := 2) dX8_as_17 rfl kl_X8_97 rfl rfl ?_
    refine am_callSp (pc' := 23) (as := [_, _, _])  rfl dX8_as_20 rfl ok_X8_in ml_X8_80 sm_X8_in (Nat.le_of_ble_eq_true rfl) rfl (Nat.le_of_ble_eq_true rfl) (t8_in) ?_
    refine am_if_ne (pc' := 26) (tgt := 33) dX8_as_23 rfl rfl (fun c_23 => ?_) (fun c_23 => ?_)
    · simp only [am_z0, am_z1, ne_eq] at c_23
      refine am_aload_n (pc' := 34) dX8_as_33 rfl rfl rfl ?_
      refine am_getRk (ki := 4) (pc' := 37) (k := 4) (ci := 7) rfl dX8_as_34 rfl fl_X8_7 (by first | assumption | exact ⟨by omega, by omega, rfl⟩) rfl (by assumption) (by omega) ?_
      refine am_iload_n (pc' := 38) dX8_as_37 rfl rfl rfl ?_
      refine am_iaload (pc' := 39) dX8_as_38 rfl (by first | assumption | exact ⟨by omega, by omega, rfl⟩) (by omega) (by omega) ?_
      refine am_iload_n (pc' := 40) dX8_as_39 rfl rfl rfl ?_
      refine am_icmp_lt (pc' := 43) (tgt := 51) dX8_as_40 rfl rfl (fun c_40 => ?_) (fun c_40 => ?_)
      · refine am_aload_n (pc' := 52) dX8_as_51 rfl rfl rfl ?_
        refine am_iconst (pc' := 53) dX8_as_52 rfl rfl ?_
        refine am_callV0 (pc' := 56) (as := [_]) (ci := 7)  rfl dX8_as_53 rfl ok_X8_failed ml_X8_105 im_X8_failed se_X8_failed rfl (Nat.le_of_ble_eq_true rfl) rfl (Nat.le_of_ble_eq_true rfl) (by first | assumption | exact ⟨by omega, by omega, rfl⟩) (t8_failed hM (by omega)) (fun r_53 ρ_53 h_53 q_53 g_53 e_53 => ?_)
        obtain ⟨rfl, rfl, rfl⟩ := q_53
        refine am_reti dX8_as_56 rfl ?_
        first | exact ⟨by rw [if_neg (by omega)], rfl, by rw [if_neg (by omega)]⟩ | exact ⟨by rw [if_pos (by omega), if_neg (by omega)], rfl, by rw [if_neg (by omega)]⟩ | exact ⟨by rw [if_pos (by omega), if_pos (by omega), if_pos (by omega)], rfl, by rw [if_neg (by omega)]⟩ | exact ⟨by rw [if_pos (by omega), if_pos (by omega), if_neg (by omega)]; rfl, rfl, by rw [if_pos (by omega)]⟩ | fail
      · refine am_aload_n (pc' := 44) dX8_as_43 rfl rfl rfl ?_
        refine am_iconst (pc' := 45) dX8_as_44 rfl rfl ?_
        refine am_callV0 (pc' := 48) (as := [_]) (ci := 7)  rfl dX8_as_45 rfl ok_X8_refused ml_X8_117 im_X8_refused se_X8_refused rfl (Nat.le_of_ble_eq_true rfl) rfl (Nat.le_of_ble_eq_true rfl) (by first | assumption | exact ⟨by omega, by omega, rfl⟩) (t8_refused hM) (fun r_45 ρ_45 h_45 q_45 g_45 e_45 => ?_)
        obtain ⟨rfl, rfl, rfl⟩ := q_45
        refine am_goto (pc' := 56) dX8_as_48 rfl ?_
        refine am_reti dX8_as_56 rfl ?_
        first | exact ⟨by rw [if_neg (by omega)], rfl, by rw [if_neg (by omega)]⟩ | exact ⟨by rw [if_pos (by omega), if_neg (by omega)], rfl, by rw [if_neg (by omega)]⟩ | exact ⟨by rw [if_pos (by omega), if_pos (by omega), if_pos (by omega)], rfl, by rw [if_neg (by omega)]⟩ | exact ⟨by rw [if_pos (by omega), if_pos (by omega), if_neg (by omega)]; rfl, rfl, by rw [if_pos (by omega)]⟩ | fail
    · simp only [am_z0, am_z1, ne_eq] at c_23
      refine am_aload_n (pc' := 27) dX8_as_26 rfl rfl rfl ?_
      refine am_bipush (pc' := 29) dX8_as_27 rfl rfl (by decide) ?_
      refine am_callV0 (pc' := 32) (as := [_]) (ci := 7)  rfl dX8_as_29 rfl ok_X8_refused ml_X8_117 im_X8_refused se_X8_refused rfl (Nat.le_of_ble_eq_true rfl) rfl (Nat.le_of_ble_eq_true rfl) (by first | assumption | exact ⟨by omega, by omega, rfl⟩) (t8_refused hM) (fun r_29 ρ_29 h_29 q_29 g_29 e_29 => ?_)
      obtain ⟨rfl, rfl, rfl⟩ := q_29
      refine am_reti dX8_as_32 rfl ?_
      first | exact ⟨by rw [if_neg (by omega)], rfl, by rw [if_neg (by omega)]⟩ | exact ⟨by rw [if_pos (by omega), if_neg (by omega)], rfl, by rw [if_neg (by omega)]⟩ | exact ⟨by rw [if_pos (by omega), if_pos (by omega), if_pos (by omega)], rfl, by rw [if_neg (by omega)]⟩ | exact ⟨by rw [if_pos (by omega), if_pos (by omega), if_neg (by omega)]; rfl, rfl, by rw [if_pos (by omega)]⟩ | fail
  · simp only [am_z0, am_z1, ne_eq] at c_5
    refine am_aload_n (pc' := 9) dX8_as_8 rfl rfl rfl ?_
    refine am_iconst (pc' := 10) dX8_as_9 rfl rfl ?_
    refine am_callV0 (pc' := 13) (as := [_]) (ci := 7)  rfl dX8_as_10 rfl ok_X8_refused ml_X8_117 im_X8_refused se_X8_refused rfl (Nat.le_of_ble_eq_true rfl) rfl (Nat.le_of_ble_eq_true rfl) (by first | assumption | exact ⟨by omega, by omega, rfl⟩) (t8_refused hM) (fun r_10 ρ_10 h_10 q_10 g_10 e_10 => ?_)
    obtain ⟨rfl, rfl, rfl⟩ := q_10
    refine am_reti dX8_as_13 rfl ?_
    first | exact ⟨by rw [if_neg (by omega)], rfl, by rw [if_neg (by omega)]⟩ | exact ⟨by rw [if_pos (by omega), if_neg (by omega)], rfl, by rw [if_neg (by omega)]⟩ | exact ⟨by rw [if_pos (by omega), if_pos (by omega), if_pos (by omega)], rfl, by rw [if_neg (by omega)]⟩ | exact ⟨by rw [if_pos (by omega), if_pos (by omega), if_neg (by omega)]; rfl, rfl, by rw [if_pos (by omega)]⟩ | fail
theorem t8_trace {ρ h : am_H} (hM : am_LM ρ) : am_CT mX8_trace 0 0 [am_R 38] ρ h (am_P (am_I (h 38 31)) ρ h) := by
  have hn58 := hM.1
  refine am_ct (ls := [some (am_R 38)]) ok_X8_trace rfl (fun _ => Nat.le_of_ble_eq_true rfl) (fun _ => rfl) (by intro v hv; simpa using hv) ?_
  refine am_aload_n (pc' := 1) dX8_trace_0 rfl rfl rfl ?_
  refine am_getIk (ki := 31) (pc' := 4) (k := 31) (ci := 7) rfl dX8_trace_1 rfl fl_X8_263 (by first | assumption | exact ⟨by omega, by omega, rfl⟩) rfl ?_
  refine am_reti dX8_trace_4 rfl ?_
  exact ⟨rfl, rfl, rfl⟩
theorem t8_fault {ρ h : am_H} (hM : am_LM ρ) : am_CT mX8_fault 0 0 [am_R 38] ρ h (am_P (am_I (h 38 0)) ρ h) := by
  have hn58 := hM.1
  refine am_ct (ls := [some (am_R 38)]) ok_X8_fault rfl (fun _ => Nat.le_of_ble_eq_true rfl) (fun _ => rfl) (by intro v hv; simpa using hv) ?_
  refine am_aload_n (pc' := 1) dX8_fault_0 rfl rfl rfl ?_
  refine am_getIk (ki := 0) (pc' := 4) (k := 0) (ci := 7) rfl dX8_fault_1 rfl fl_X8_69 (by first | assumption | exact ⟨by omega, by omega, rfl⟩) rfl ?_
  refine am_reti dX8_fault_4 rfl ?_
  exact ⟨rfl, rfl, rfl⟩
theorem t8_many {ρ h : am_H} {w : Int} (hM : am_LM ρ) (hR : md_R h) : am_CT mX8_many 0 0 [am_R 38, am_I w] ρ h (am_P (am_I (o_many (h 38 1) (h 38 2) (h 38 3) (h 40) (h 38 23) w)) ρ h) := by
  have hn58 := hM.1
  have hP5 := md_P5 hR
  refine am_ct (ls := [some (am_R 38), some (am_I w)]) ok_X8_many rfl (fun _ => Nat.le_of_ble_eq_true rfl) (fun _ => rfl) (by intro v hv; simpa using hv) ?_
  unfold o_many
  refine am_iload_n (pc' := 1) dX8_many_0 rfl rfl rfl ?_
  refine am_case (0) (fun c_1_0 => ?_) (fun c_1_0 => ?_)
  · refine am_tabIn (pc' := 36) (off := 35) dX8_many_1 (by decide) (by decide) rfl rfl ?_
    refine am_aload_n (pc' := 37) dX8_many_36 rfl rfl rfl ?_
    refine am_getIk (ki := 1) (pc' := 40) (k := 1) (ci := 7) rfl dX8_many_37 rfl fl_X8_77 (by first | assumption | exact ⟨by omega, by omega, rfl⟩) rfl ?_
    refine am_reti dX8_many_40 rfl ?_
    first | exact ⟨by rw [if_pos (by omega)], rfl, rfl⟩ | exact ⟨by rw [if_neg (by omega), if_pos (by omega)], rfl, rfl⟩ | exact ⟨by rw [if_neg (by omega), if_neg (by omega), if_pos (by omega)], rfl, rfl⟩ | exact ⟨by rw [if_neg (by omega), if_neg (by omega), if_neg (by omega), if_pos (by omega)], rfl, rfl⟩ | exact ⟨by rw [if_neg (by omega), if_neg (by omega), if_neg (by omega), if_neg (by omega), if_pos (by omega)], rfl, rfl⟩ | exact ⟨by rw [if_neg (by omega), if_neg (by omega), if_neg (by omega), if_neg (by omega), if_neg (by omega)], rfl, rfl⟩ | fail
  refine am_case (1) (fun c_1_1 => ?_) (fun c_1_1 => ?_)
  · refine am_tabIn (pc' := 41) (off := 40) dX8_many_1 (by decide) (by decide) rfl rfl ?_
    refine am_aload_n (pc' := 42) dX8_many_41 rfl rfl rfl ?_
    refine am_getIk (ki := 2) (pc' := 45) (k := 2) (ci := 7) rfl dX8_many_42 rfl fl_X8_127 (by first | assumption | exact ⟨by omega, by omega, rfl⟩) rfl ?_
    refine am_reti dX8_many_45 rfl ?_
    first | exact ⟨by rw [if_pos (by omega)], rfl, rfl⟩ | exact ⟨by rw [if_neg (by omega), if_pos (by omega)], rfl, rfl⟩ | exact ⟨by rw [if_neg (by omega), if_neg (by omega), if_pos (by omega)], rfl, rfl⟩ | exact ⟨by rw [if_neg (by omega), if_neg (by omega), if_neg (by omega), if_pos (by omega)], rfl, rfl⟩ | exact ⟨by rw [if_neg (by omega), if_neg (by omega), if_neg (by omega), if_neg (by omega), if_pos (by omega)], rfl, rfl⟩ | exact ⟨by rw [if_neg (by omega), if_neg (by omega), if_neg (by omega), if_neg (by omega), if_neg (by omega)], rfl, rfl⟩ | fail
  refine am_case (2) (fun c_1_2 => ?_) (fun c_1_2 => ?_)
  · refine am_tabIn (pc' := 46) (off := 45) dX8_many_1 (by decide) (by decide) rfl rfl ?_
    refine am_aload_n (pc' := 47) dX8_many_46 rfl rfl rfl ?_
    refine am_getIk (ki := 3) (pc' := 50) (k := 3) (ci := 7) rfl dX8_many_47 rfl fl_X8_130 (by first | assumption | exact ⟨by omega, by omega, rfl⟩) rfl ?_
    refine am_reti dX8_many_50 rfl ?_
    first | exact ⟨by rw [if_pos (by omega)], rfl, rfl⟩ | exact ⟨by rw [if_neg (by omega), if_pos (by omega)], rfl, rfl⟩ | exact ⟨by rw [if_neg (by omega), if_neg (by omega), if_pos (by omega)], rfl, rfl⟩ | exact ⟨by rw [if_neg (by omega), if_neg (by omega), if_neg (by omega), if_pos (by omega)], rfl, rfl⟩ | exact ⟨by rw [if_neg (by omega), if_neg (by omega), if_neg (by omega), if_neg (by omega), if_pos (by omega)], rfl, rfl⟩ | exact ⟨by rw [if_neg (by omega), if_neg (by omega), if_neg (by omega), if_neg (by omega), if_neg (by omega)], rfl, rfl⟩ | fail
  refine am_case (3) (fun c_1_3 => ?_) (fun c_1_3 => ?_)
  · refine am_tabIn (pc' := 51) (off := 50) dX8_many_1 (by decide) (by decide) rfl rfl ?_
    refine am_aload_n (pc' := 52) dX8_many_51 rfl rfl rfl ?_
    refine am_callVp (pc' := 55) (as := []) (ci := 7)  rfl dX8_many_52 rfl ok_X8_zeros ml_X8_164 im_X8_zeros se_X8_zeros rfl (Nat.le_of_ble_eq_true rfl) rfl (Nat.le_of_ble_eq_true rfl) (by first | assumption | exact ⟨by omega, by omega, rfl⟩) (t8_zeros hM hP5.1) ?_
    refine am_reti dX8_many_55 rfl ?_
    first | exact ⟨by rw [if_pos (by omega)], rfl, rfl⟩ | exact ⟨by rw [if_neg (by omega), if_pos (by omega)], rfl, rfl⟩ | exact ⟨by rw [if_neg (by omega), if_neg (by omega), if_pos (by omega)], rfl, rfl⟩ | exact ⟨by rw [if_neg (by omega), if_neg (by omega), if_neg (by omega), if_pos (by omega)], rfl, rfl⟩ | exact ⟨by rw [if_neg (by omega), if_neg (by omega), if_neg (by omega), if_neg (by omega), if_pos (by omega)], rfl, rfl⟩ | exact ⟨by rw [if_neg (by omega), if_neg (by omega), if_neg (by omega), if_neg (by omega), if_neg (by omega)], rfl, rfl⟩ | fail
  refine am_case (4) (fun c_1_4 => ?_) (fun c_1_4 => ?_)
  · refine am_tabIn (pc' := 56) (off := 55) dX8_many_1 (by decide) (by decide) rfl rfl ?_
    refine am_aload_n (pc' := 57) dX8_many_56 rfl rfl rfl ?_
    refine am_getIk (ki := 23) (pc' := 60) (k := 23) (ci := 7) rfl dX8_many_57 rfl fl_X8_133 (by first | assumption | exact ⟨by omega, by omega, rfl⟩) rfl ?_
    refine am_reti dX8_many_60 rfl ?_
    first | exact ⟨by rw [if_pos (by omega)], rfl, rfl⟩ | exact ⟨by rw [if_neg (by omega), if_pos (by omega)], rfl, rfl⟩ | exact ⟨by rw [if_neg (by omega), if_neg (by omega), if_pos (by omega)], rfl, rfl⟩ | exact ⟨by rw [if_neg (by omega), if_neg (by omega), if_neg (by omega), if_pos (by omega)], rfl, rfl⟩ | exact ⟨by rw [if_neg (by omega), if_neg (by omega), if_neg (by omega), if_neg (by omega), if_pos (by omega)], rfl, rfl⟩ | exact ⟨by rw [if_neg (by omega), if_neg (by omega), if_neg (by omega), if_neg (by omega), if_neg (by omega)], rfl, rfl⟩ | fail
  refine am_tabOut (pc' := 61) dX8_many_1 rfl (by omega) ?_
  refine am_bipush (pc' := 63) dX8_many_61 rfl rfl (by decide) ?_
  refine am_reti dX8_many_63 rfl ?_
  first | exact ⟨by rw [if_pos (by omega)], rfl, rfl⟩ | exact ⟨by rw [if_neg (by omega), if_pos (by omega)], rfl, rfl⟩ | exact ⟨by rw [if_neg (by omega), if_neg (by omega), if_pos (by omega)], rfl, rfl⟩ | exact ⟨by rw [if_neg (by omega), if_neg (by omega), if_neg (by omega), if_pos (by omega)], rfl, rfl⟩ | exact ⟨by rw [if_neg (by omega), if_neg (by omega), if_neg (by omega), if_neg (by omega), if_pos (by omega)], rfl, rfl⟩ | exact ⟨by rw [if_neg (by omega), if_neg (by omega), if_neg (by omega), if_neg (by omega), if_neg (by omega)], rfl, rfl⟩ | fail
theorem t8_steps {ρ h : am_H} {n : Int} (hM : am_LM ρ) (hR : md_R h) : am_CT mX8_steps 0 0 [am_R 38, am_I n] ρ h (fun r ρ' h' => ρ' = ρ ∧ ((¬ (1 ≤ n ∧ n ≤ 99) ∧ r = some (am_I (-2)) ∧ h' = h) ∨ ((1 ≤ n ∧ n ≤ 99) ∧ h 38 1 = 0 ∧ r = some (am_I (-3)) ∧ h' = h) ∨
    ((1 ≤ n ∧ n ≤ 99) ∧ h 38 1 ≠ 0 ∧ am_fr [38, 40, 43, 44] h h' ∧ h' 38 3 = am_w (h 38 3 + n) ∧ (∀ k, k ≠ 3 → h' 38 k = h 38 k) ∧ mt_eq (h 38 1) (h' 40) (mt_it (h 38 1) (h 38 2) (h 39) n.toNat (h 40)) ∧ r = some (am_I (mt_sum (fun q => if h' 40 q = 0 then 1 else 0) (h 38 1).toNat))))) := by
  have hn58 := hM.1
  have hP5 := md_P5 hR
  refine am_ct (ls := [some (am_R 38), some (am_I n)]) ok_X8_steps rfl (fun _ => Nat.le_of_ble_eq_true rfl) (fun _ => rfl) (by intro v hv; simpa using hv) ?_
  refine am_iload_n (pc' := 1) dX8_steps_0 rfl rfl rfl ?_
  refine am_i2l (pc' := 2) dX8_steps_1 rfl ?_
  refine am_lconst1 (pc' := 3) dX8_steps_2 rfl ?_
  refine am_ldc2 (pc' := 6) (x := 99) dX8_steps_3 rfl kl_X8_158 rfl rfl ?_
  refine am_callSp (pc' := 9) (as := [_, _, _])  rfl dX8_steps_6 rfl ok_X8_in ml_X8_80 sm_X8_in (Nat.le_of_ble_eq_true rfl) rfl (Nat.le_of_ble_eq_true rfl) (t8_in) ?_
  refine am_if_ne (pc' := 12) (tgt := 15) dX8_steps_9 rfl rfl (fun c_9 => ?_) (fun c_9 => ?_)
  · simp only [am_z0, am_z1, ne_eq] at c_9
    refine am_aload_n (pc' := 16) dX8_steps_15 rfl rfl rfl ?_
    refine am_getIk (ki := 1) (pc' := 19) (k := 1) (ci := 7) rfl dX8_steps_16 rfl fl_X8_77 (by first | assumption | exact ⟨by omega, by omega, rfl⟩) rfl ?_
    refine am_if_ne (pc' := 22) (tgt := 25) dX8_steps_19 rfl rfl (fun c_19 => ?_) (fun c_19 => ?_)
    · obtain ⟨hA, hnm, hkd⟩ := md_RA hR (show h 38 1 ≠ 0 by omega)
      refine am_aload_n (pc' := 26) dX8_steps_25 rfl rfl rfl ?_
      refine am_iload_n (pc' := 27) dX8_steps_26 rfl rfl rfl ?_
      refine am_callV0 (pc' := 30) (as := [_]) (ci := 7)  rfl dX8_steps_27 rfl ok_X8_doesSteps ml_X8_160 im_X8_doesSteps se_X8_doesSteps rfl (Nat.le_of_ble_eq_true rfl) rfl (Nat.le_of_ble_eq_true rfl) (by first | assumption | exact ⟨by omega, by omega, rfl⟩) (t8_doesSteps hM hA hnm (by omega)) (fun r_27 ρ_27 h_27 q_27 g_27 e_27 => ?_)
      obtain ⟨rfl, rfl, q1, q2⟩ := q_27
      have g1 : ∀ k, h_27 38 k = h 38 k := fun k => q1 38 k (by simp <;> omega)
      refine am_aload_n (pc' := 31) dX8_steps_30 rfl rfl rfl ?_
      first | refine am_dupR (pc' := 32) dX8_steps_31 rfl ?_ | refine am_dupI (pc' := 32) dX8_steps_31 rfl ?_
      refine am_getIk (ki := 3) (pc' := 35) (k := 3) (ci := 7) rfl dX8_steps_32 rfl fl_X8_130 (by first | assumption | exact ⟨by omega, by omega, rfl⟩) rfl ?_
      refine am_iload_n (pc' := 36) dX8_steps_35 rfl rfl rfl ?_
      refine am_iaddw (pc' := 37) dX8_steps_36 rfl ?_
      refine am_putIk (ki := 3) (pc' := 40) (k := 3) (ci := 7) rfl dX8_steps_37 rfl fl_X8_130 (by first | assumption | exact ⟨by omega, by omega, rfl⟩) rfl (fun _ _ _ e => by cases e; rfl) ?_
      refine am_aload_n (pc' := 41) dX8_steps_40 rfl rfl rfl ?_
      refine am_callVp (pc' := 44) (as := []) (ci := 7)  rfl dX8_steps_41 rfl ok_X8_zeros ml_X8_164 im_X8_zeros se_X8_zeros rfl (Nat.le_of_ble_eq_true rfl) rfl (Nat.le_of_ble_eq_true rfl) (by first | assumption | exact ⟨by omega, by omega, rfl⟩) (t8_zeros hM (by rw [am_u_n (by omega), g1]; exact hP5.1)) ?_
      refine am_reti dX8_steps_44 rfl ?_
      refine ⟨rfl, Or.inr (Or.inr ⟨by omega, by omega, am_fr_u (am_fr_sub q1 (by intro x hx; simp at hx ⊢; omega)) (by simp <;> omega), ?_, fun k hk => ?_, fun p p0 p1 => ?_, ?_⟩)⟩
      · rw [am_u_s, g1]
      · rw [am_u_n (by omega), g1]
      · rw [am_u_n (by omega)]; exact q2 p p0 p1
      · rw [am_u_n (by omega), g1, g1]
    · refine am_bipush (pc' := 24) dX8_steps_22 rfl rfl (by decide) ?_
      refine am_reti dX8_steps_24 rfl ?_
      exact ⟨rfl, Or.inr (Or.inl ⟨by omega, by omega, rfl, rfl⟩)⟩
  · simp only [am_z0, am_z1, ne_eq] at c_9
    refine am_bipush (pc' := 14) dX8_steps_12 rfl rfl (by decide) ?_
    refine am_reti dX8_steps_14 rfl ?_
    exact ⟨rfl, Or.inl ⟨by omega, rfl, rfl⟩⟩
theorem t8_tell {ρ h : am_H} {p : Int} (hM : am_LM ρ) (hR : md_R h) : am_CT mX8_tell 0 0 [am_R 38, am_I p] ρ h (fun r ρ' h' => r = some (am_I (o_tell (h 38 1) (h 39) (h 40) p)) ∧ ρ' = ρ ∧ h' = am_u h 38 31 (o_tellT (h 38 1) (h 39) p (h 38 31))) := by
  have hn58 := hM.1
  have hP5 := md_P5 hR
  have e3 := am_lm hM 38 4 39 (by decide)
  have l3 := am_lm hM 39 (-1) 5 (by decide)
  have e4 := am_lm hM 38 5 40 (by decide)
  have l4 := am_lm hM 40 (-1) 5 (by decide)
  have u9 : ∀ v, am_u h 38 31 v 40 p = h 40 p := fun v => am_u_n (by omega)
  have hv : 0 ≤ p ∧ p < h 38 1 → (0 ≤ h 40 p ∧ h 40 p < 6) ∧ 0 ≤ h 39 p ∧ h 39 p ≤ 2 := fun z => by
    obtain ⟨y1, y2, y3⟩ := md_RA hR (by omega)
    have z1 := y2 p z.1 z.2
    have z2 := y1.2.2
    exact ⟨⟨z1.1, Int.lt_of_lt_of_le z1.2 z2⟩, y3 p z.1 z.2⟩
  refine am_ct (ls := [some (am_R 38), some (am_I p), none, none]) ok_X8_tell rfl (fun _ => Nat.le_of_ble_eq_true rfl) (fun _ => rfl) (by intro v hv; simpa using hv) ?_
  unfold o_tell o_tellT
  refine am_aload_n (pc' := 1) dX8_tell_0 rfl rfl rfl ?_
  refine am_iload_n (pc' := 2) dX8_tell_1 rfl rfl rfl ?_
  refine am_callVp (pc' := 5) (as := [_]) (ci := 7)  rfl dX8_tell_2 rfl ok_X8_noPlace ml_X8_149 im_X8_noPlace se_X8_noPlace rfl (Nat.le_of_ble_eq_true rfl) rfl (Nat.le_of_ble_eq_true rfl) (by first | assumption | exact ⟨by omega, by omega, rfl⟩) (t8_noPlace hM hP5.1) ?_
  refine am_if_eq (pc' := 8) (tgt := 10) dX8_tell_5 rfl rfl (fun c_5 => ?_) (fun c_5 => ?_)
  · simp only [am_z0, am_z1, ne_eq] at c_5
    have hvv := hv (by omega)
    refine am_aload_n (pc' := 11) dX8_tell_10 rfl rfl rfl ?_
    refine am_getRk (ki := 4) (pc' := 14) (k := 4) (ci := 7) rfl dX8_tell_11 rfl fl_X8_7 (by first | assumption | exact ⟨by omega, by omega, rfl⟩) rfl (by assumption) (by omega) ?_
    refine am_iload_n (pc' := 15) dX8_tell_14 rfl rfl rfl ?_
    refine am_iaload (pc' := 16) dX8_tell_15 rfl (by first | assumption | exact ⟨by omega, by omega, rfl⟩) (by omega) (by omega) ?_
    refine am_istore_n (pc' := 17) (ls' := [_, _, _, _]) dX8_tell_16 rfl rfl (Nat.le_of_ble_eq_true rfl) rfl rfl ?_
    refine am_iload_n (pc' := 18) dX8_tell_17 rfl rfl rfl ?_
    refine am_iconst (pc' := 19) dX8_tell_18 rfl rfl ?_
    refine am_icmp_ne (pc' := 22) (tgt := 27) dX8_tell_19 rfl rfl (fun c_19 => ?_) (fun c_19 => ?_)
    · refine am_iload_n (pc' := 28) dX8_tell_27 rfl rfl rfl ?_
      refine am_if_le (pc' := 31) (tgt := 36) dX8_tell_28 rfl rfl (fun c_28 => ?_) (fun c_28 => ?_)
      · refine am_aload_n (pc' := 37) dX8_tell_36 rfl rfl rfl ?_
        refine am_iconst (pc' := 38) dX8_tell_37 rfl rfl ?_
        refine am_callV0 (pc' := 41) (as := [_]) (ci := 7)  rfl dX8_tell_38 rfl ok_X8_traced ml_X8_266 im_X8_traced se_X8_traced rfl (Nat.le_of_ble_eq_true rfl) rfl (Nat.le_of_ble_eq_true rfl) (by first | assumption | exact ⟨by omega, by omega, rfl⟩) (t8_traced hM) (fun r_38 ρ_38 h_38 q_38 g_38 e_38 => ?_)
        obtain ⟨rfl, rfl, rfl⟩ := q_38
        try rw [am_uu, am_u_s]
        refine am_iload_n (pc' := 42) dX8_tell_41 rfl rfl rfl ?_
        refine am_iconst (pc' := 43) dX8_tell_42 rfl rfl ?_
        refine am_icmp_ne (pc' := 46) (tgt := 51) dX8_tell_43 rfl rfl (fun c_43 => ?_) (fun c_43 => ?_)
        · refine am_aload_n (pc' := 52) dX8_tell_51 rfl rfl rfl ?_
          refine am_getRk (ki := 5) (pc' := 55) (k := 5) (ci := 7) rfl dX8_tell_52 rfl fl_X8_13 (by first | assumption | exact ⟨by omega, by omega, rfl⟩) rfl (by assumption) (by omega) ?_
          refine am_iload_n (pc' := 56) dX8_tell_55 rfl rfl rfl ?_
          refine am_iaload (pc' := 57) dX8_tell_56 rfl (by first | assumption | exact ⟨by omega, by omega, rfl⟩) (by omega) (by omega) ?_
          rw [u9]
          refine am_istore_n (pc' := 58) (ls' := [_, _, _, _]) dX8_tell_57 rfl rfl (Nat.le_of_ble_eq_true rfl) rfl rfl ?_
          refine am_iload_n (pc' := 59) dX8_tell_58 rfl rfl rfl ?_
          refine am_if_ne (pc' := 62) (tgt := 66) dX8_tell_59 rfl rfl (fun c_59 => ?_) (fun c_59 => ?_)
          · refine am_iload_n (pc' := 67) dX8_tell_66 rfl rfl rfl ?_
            refine am_iconst (pc' := 68) dX8_tell_67 rfl rfl ?_
            refine am_icmp_ne (pc' := 71) (tgt := 78) dX8_tell_68 rfl rfl (fun c_68 => ?_) (fun c_68 => ?_)
            · refine am_iconst (pc' := 79) dX8_tell_78 rfl rfl ?_
              refine am_iload_n (pc' := 80) dX8_tell_79 rfl rfl rfl ?_
              refine am_imul (pc' := 81) dX8_tell_80 rfl ⟨by omega, by omega⟩ ?_
              refine am_bipush (pc' := 83) dX8_tell_81 rfl rfl (by decide) ?_
              refine am_iadd (pc' := 84) dX8_tell_83 rfl ⟨by omega, by omega⟩ ?_
              refine am_reti dX8_tell_84 rfl ?_
              first | (exfalso; omega) | exact ⟨by rw [if_neg (by omega)], rfl, by rw [if_neg (by omega), am_uid]⟩ | exact ⟨by rw [if_pos (by omega), if_pos (by omega)], rfl, by rw [if_pos (by omega), if_pos (by omega)]⟩ | exact ⟨by rw [if_pos (by omega), if_neg (by omega), if_pos (by omega)], rfl, by rw [if_pos (by omega), if_neg (by omega), if_pos (by omega)]⟩ | exact ⟨by rw [if_pos (by omega), if_neg (by omega), if_neg (by omega), show 2 * h 40 p + 100 = h 40 p + 100 + h 40 p by omega], rfl, by rw [if_pos (by omega), if_neg (by omega), if_neg (by omega)]⟩ | fail
            · refine am_iload_n (pc' := 72) dX8_tell_71 rfl rfl rfl ?_
              refine am_bipush (pc' := 74) dX8_tell_72 rfl rfl (by decide) ?_
              refine am_iadd (pc' := 75) dX8_tell_74 rfl ⟨by omega, by omega⟩ ?_
              refine am_goto (pc' := 84) dX8_tell_75 rfl ?_
              refine am_reti dX8_tell_84 rfl ?_
              first | (exfalso; omega) | exact ⟨by rw [if_neg (by omega)], rfl, by rw [if_neg (by omega), am_uid]⟩ | exact ⟨by rw [if_pos (by omega), if_pos (by omega)], rfl, by rw [if_pos (by omega), if_pos (by omega)]⟩ | exact ⟨by rw [if_pos (by omega), if_neg (by omega), if_pos (by omega)], rfl, by rw [if_pos (by omega), if_neg (by omega), if_pos (by omega)]⟩ | exact ⟨by rw [if_pos (by omega), if_neg (by omega), if_neg (by omega), show 2 * h 40 p + 100 = h 40 p + 100 + h 40 p by omega], rfl, by rw [if_pos (by omega), if_neg (by omega), if_neg (by omega)]⟩ | fail
          · refine am_iload_n (pc' := 63) dX8_tell_62 rfl rfl rfl ?_
            refine am_goto (pc' := 84) dX8_tell_63 rfl ?_
            refine am_reti dX8_tell_84 rfl ?_
            first | (exfalso; omega) | exact ⟨by rw [if_neg (by omega)], rfl, by rw [if_neg (by omega), am_uid]⟩ | exact ⟨by rw [if_pos (by omega), if_pos (by omega)], rfl, by rw [if_pos (by omega), if_pos (by omega)]⟩ | exact ⟨by rw [if_pos (by omega), if_neg (by omega), if_pos (by omega)], rfl, by rw [if_pos (by omega), if_neg (by omega), if_pos (by omega)]⟩ | exact ⟨by rw [if_pos (by omega), if_neg (by omega), if_neg (by omega), show 2 * h 40 p + 100 = h 40 p + 100 + h 40 p by omega], rfl, by rw [if_pos (by omega), if_neg (by omega), if_neg (by omega)]⟩ | fail
        · refine am_aload_n (pc' := 47) dX8_tell_46 rfl rfl rfl ?_
          refine am_iconst (pc' := 48) dX8_tell_47 rfl rfl ?_
          refine am_callV0 (pc' := 51) (as := [_]) (ci := 7)  rfl dX8_tell_48 rfl ok_X8_traced ml_X8_266 im_X8_traced se_X8_traced rfl (Nat.le_of_ble_eq_true rfl) rfl (Nat.le_of_ble_eq_true rfl) (by first | assumption | exact ⟨by omega, by omega, rfl⟩) (t8_traced hM) (fun r_48 ρ_48 h_48 q_48 g_48 e_48 => ?_)
          obtain ⟨rfl, rfl, rfl⟩ := q_48
          try rw [am_uu, am_u_s]
          refine am_aload_n (pc' := 52) dX8_tell_51 rfl rfl rfl ?_
          refine am_getRk (ki := 5) (pc' := 55) (k := 5) (ci := 7) rfl dX8_tell_52 rfl fl_X8_13 (by first | assumption | exact ⟨by omega, by omega, rfl⟩) rfl (by assumption) (by omega) ?_
          refine am_iload_n (pc' := 56) dX8_tell_55 rfl rfl rfl ?_
          refine am_iaload (pc' := 57) dX8_tell_56 rfl (by first | assumption | exact ⟨by omega, by omega, rfl⟩) (by omega) (by omega) ?_
          rw [u9]
          refine am_istore_n (pc' := 58) (ls' := [_, _, _, _]) dX8_tell_57 rfl rfl (Nat.le_of_ble_eq_true rfl) rfl rfl ?_
          refine am_iload_n (pc' := 59) dX8_tell_58 rfl rfl rfl ?_
          refine am_if_ne (pc' := 62) (tgt := 66) dX8_tell_59 rfl rfl (fun c_59 => ?_) (fun c_59 => ?_)
          · refine am_iload_n (pc' := 67) dX8_tell_66 rfl rfl rfl ?_
            refine am_iconst (pc' := 68) dX8_tell_67 rfl rfl ?_
            refine am_icmp_ne (pc' := 71) (tgt := 78) dX8_tell_68 rfl rfl (fun c_68 => ?_) (fun c_68 => ?_)
            · refine am_iconst (pc' := 79) dX8_tell_78 rfl rfl ?_
              refine am_iload_n (pc' := 80) dX8_tell_79 rfl rfl rfl ?_
              refine am_imul (pc' := 81) dX8_tell_80 rfl ⟨by omega, by omega⟩ ?_
              refine am_bipush (pc' := 83) dX8_tell_81 rfl rfl (by decide) ?_
              refine am_iadd (pc' := 84) dX8_tell_83 rfl ⟨by omega, by omega⟩ ?_
              refine am_reti dX8_tell_84 rfl ?_
              first | (exfalso; omega) | exact ⟨by rw [if_neg (by omega)], rfl, by rw [if_neg (by omega), am_uid]⟩ | exact ⟨by rw [if_pos (by omega), if_pos (by omega)], rfl, by rw [if_pos (by omega), if_pos (by omega)]⟩ | exact ⟨by rw [if_pos (by omega), if_neg (by omega), if_pos (by omega)], rfl, by rw [if_pos (by omega), if_neg (by omega), if_pos (by omega)]⟩ | exact ⟨by rw [if_pos (by omega), if_neg (by omega), if_neg (by omega), show 2 * h 40 p + 100 = h 40 p + 100 + h 40 p by omega], rfl, by rw [if_pos (by omega), if_neg (by omega), if_neg (by omega)]⟩ | fail
            · refine am_iload_n (pc' := 72) dX8_tell_71 rfl rfl rfl ?_
              refine am_bipush (pc' := 74) dX8_tell_72 rfl rfl (by decide) ?_
              refine am_iadd (pc' := 75) dX8_tell_74 rfl ⟨by omega, by omega⟩ ?_
              refine am_goto (pc' := 84) dX8_tell_75 rfl ?_
              refine am_reti dX8_tell_84 rfl ?_
              first | (exfalso; omega) | exact ⟨by rw [if_neg (by omega)], rfl, by rw [if_neg (by omega), am_uid]⟩ | exact ⟨by rw [if_pos (by omega), if_pos (by omega)], rfl, by rw [if_pos (by omega), if_pos (by omega)]⟩ | exact ⟨by rw [if_pos (by omega), if_neg (by omega), if_pos (by omega)], rfl, by rw [if_pos (by omega), if_neg (by omega), if_pos (by omega)]⟩ | exact ⟨by rw [if_pos (by omega), if_neg (by omega), if_neg (by omega), show 2 * h 40 p + 100 = h 40 p + 100 + h 40 p by omega], rfl, by rw [if_pos (by omega), if_neg (by omega), if_neg (by omega)]⟩ | fail
          · refine am_iload_n (pc' := 63) dX8_tell_62 rfl rfl rfl ?_
            refine am_goto (pc' := 84) dX8_tell_63 rfl ?_
            refine am_reti dX8_tell_84 rfl ?_
            first | (exfalso; omega) | exact ⟨by rw [if_neg (by omega)], rfl, by rw [if_neg (by omega), am_uid]⟩ | exact ⟨by rw [if_pos (by omega), if_pos (by omega)], rfl, by rw [if_pos (by omega), if_pos (by omega)]⟩ | exact ⟨by rw [if_pos (by omega), if_neg (by omega), if_pos (by omega)], rfl, by rw [if_pos (by omega), if_neg (by omega), if_pos (by omega)]⟩ | exact ⟨by rw [if_pos (by omega), if_neg (by omega), if_neg (by omega), show 2 * h 40 p + 100 = h 40 p + 100 + h 40 p by omega], rfl, by rw [if_pos (by omega), if_neg (by omega), if_neg (by omega)]⟩ | fail
      · refine am_aload_n (pc' := 32) dX8_tell_31 rfl rfl rfl ?_
        refine am_iconst (pc' := 33) dX8_tell_32 rfl rfl ?_
        refine am_callV0 (pc' := 36) (as := [_]) (ci := 7)  rfl dX8_tell_33 rfl ok_X8_traced ml_X8_266 im_X8_traced se_X8_traced rfl (Nat.le_of_ble_eq_true rfl) rfl (Nat.le_of_ble_eq_true rfl) (by first | assumption | exact ⟨by omega, by omega, rfl⟩) (t8_traced hM) (fun r_33 ρ_33 h_33 q_33 g_33 e_33 => ?_)
        obtain ⟨rfl, rfl, rfl⟩ := q_33
        try rw [am_uu, am_u_s]
        refine am_aload_n (pc' := 37) dX8_tell_36 rfl rfl rfl ?_
        refine am_iconst (pc' := 38) dX8_tell_37 rfl rfl ?_
        refine am_callV0 (pc' := 41) (as := [_]) (ci := 7)  rfl dX8_tell_38 rfl ok_X8_traced ml_X8_266 im_X8_traced se_X8_traced rfl (Nat.le_of_ble_eq_true rfl) rfl (Nat.le_of_ble_eq_true rfl) (by first | assumption | exact ⟨by omega, by omega, rfl⟩) (t8_traced hM) (fun r_38 ρ_38 h_38 q_38 g_38 e_38 => ?_)
        obtain ⟨rfl, rfl, rfl⟩ := q_38
        try rw [am_uu, am_u_s]
        refine am_iload_n (pc' := 42) dX8_tell_41 rfl rfl rfl ?_
        refine am_iconst (pc' := 43) dX8_tell_42 rfl rfl ?_
        refine am_icmp_ne (pc' := 46) (tgt := 51) dX8_tell_43 rfl rfl (fun c_43 => ?_) (fun c_43 => ?_)
        · refine am_aload_n (pc' := 52) dX8_tell_51 rfl rfl rfl ?_
          refine am_getRk (ki := 5) (pc' := 55) (k := 5) (ci := 7) rfl dX8_tell_52 rfl fl_X8_13 (by first | assumption | exact ⟨by omega, by omega, rfl⟩) rfl (by assumption) (by omega) ?_
          refine am_iload_n (pc' := 56) dX8_tell_55 rfl rfl rfl ?_
          refine am_iaload (pc' := 57) dX8_tell_56 rfl (by first | assumption | exact ⟨by omega, by omega, rfl⟩) (by omega) (by omega) ?_
          rw [u9]
          refine am_istore_n (pc' := 58) (ls' := [_, _, _, _]) dX8_tell_57 rfl rfl (Nat.le_of_ble_eq_true rfl) rfl rfl ?_
          refine am_iload_n (pc' := 59) dX8_tell_58 rfl rfl rfl ?_
          refine am_if_ne (pc' := 62) (tgt := 66) dX8_tell_59 rfl rfl (fun c_59 => ?_) (fun c_59 => ?_)
          · refine am_iload_n (pc' := 67) dX8_tell_66 rfl rfl rfl ?_
            refine am_iconst (pc' := 68) dX8_tell_67 rfl rfl ?_
            refine am_icmp_ne (pc' := 71) (tgt := 78) dX8_tell_68 rfl rfl (fun c_68 => ?_) (fun c_68 => ?_)
            · refine am_iconst (pc' := 79) dX8_tell_78 rfl rfl ?_
              refine am_iload_n (pc' := 80) dX8_tell_79 rfl rfl rfl ?_
              refine am_imul (pc' := 81) dX8_tell_80 rfl ⟨by omega, by omega⟩ ?_
              refine am_bipush (pc' := 83) dX8_tell_81 rfl rfl (by decide) ?_
              refine am_iadd (pc' := 84) dX8_tell_83 rfl ⟨by omega, by omega⟩ ?_
              refine am_reti dX8_tell_84 rfl ?_
              first | (exfalso; omega) | exact ⟨by rw [if_neg (by omega)], rfl, by rw [if_neg (by omega), am_uid]⟩ | exact ⟨by rw [if_pos (by omega), if_pos (by omega)], rfl, by rw [if_pos (by omega), if_pos (by omega)]⟩ | exact ⟨by rw [if_pos (by omega), if_neg (by omega), if_pos (by omega)], rfl, by rw [if_pos (by omega), if_neg (by omega), if_pos (by omega)]⟩ | exact ⟨by rw [if_pos (by omega), if_neg (by omega), if_neg (by omega), show 2 * h 40 p + 100 = h 40 p + 100 + h 40 p by omega], rfl, by rw [if_pos (by omega), if_neg (by omega), if_neg (by omega)]⟩ | fail
            · refine am_iload_n (pc' := 72) dX8_tell_71 rfl rfl rfl ?_
              refine am_bipush (pc' := 74) dX8_tell_72 rfl rfl (by decide) ?_
              refine am_iadd (pc' := 75) dX8_tell_74 rfl ⟨by omega, by omega⟩ ?_
              refine am_goto (pc' := 84) dX8_tell_75 rfl ?_
              refine am_reti dX8_tell_84 rfl ?_
              first | (exfalso; omega) | exact ⟨by rw [if_neg (by omega)], rfl, by rw [if_neg (by omega), am_uid]⟩ | exact ⟨by rw [if_pos (by omega), if_pos (by omega)], rfl, by rw [if_pos (by omega), if_pos (by omega)]⟩ | exact ⟨by rw [if_pos (by omega), if_neg (by omega), if_pos (by omega)], rfl, by rw [if_pos (by omega), if_neg (by omega), if_pos (by omega)]⟩ | exact ⟨by rw [if_pos (by omega), if_neg (by omega), if_neg (by omega), show 2 * h 40 p + 100 = h 40 p + 100 + h 40 p by omega], rfl, by rw [if_pos (by omega), if_neg (by omega), if_neg (by omega)]⟩ | fail
          · refine am_iload_n (pc' := 63) dX8_tell_62 rfl rfl rfl ?_
            refine am_goto (pc' := 84) dX8_tell_63 rfl ?_
            refine am_reti dX8_tell_84 rfl ?_
            first | (exfalso; omega) | exact ⟨by rw [if_neg (by omega)], rfl, by rw [if_neg (by omega), am_uid]⟩ | exact ⟨by rw [if_pos (by omega), if_pos (by omega)], rfl, by rw [if_pos (by omega), if_pos (by omega)]⟩ | exact ⟨by rw [if_pos (by omega), if_neg (by omega), if_pos (by omega)], rfl, by rw [if_pos (by omega), if_neg (by omega), if_pos (by omega)]⟩ | exact ⟨by rw [if_pos (by omega), if_neg (by omega), if_neg (by omega), show 2 * h 40 p + 100 = h 40 p + 100 + h 40 p by omega], rfl, by rw [if_pos (by omega), if_neg (by omega), if_neg (by omega)]⟩ | fail
        · refine am_aload_n (pc' := 47) dX8_tell_46 rfl rfl rfl ?_
          refine am_iconst (pc' := 48) dX8_tell_47 rfl rfl ?_
          refine am_callV0 (pc' := 51) (as := [_]) (ci := 7)  rfl dX8_tell_48 rfl ok_X8_traced ml_X8_266 im_X8_traced se_X8_traced rfl (Nat.le_of_ble_eq_true rfl) rfl (Nat.le_of_ble_eq_true rfl) (by first | assumption | exact ⟨by omega, by omega, rfl⟩) (t8_traced hM) (fun r_48 ρ_48 h_48 q_48 g_48 e_48 => ?_)
          obtain ⟨rfl, rfl, rfl⟩ := q_48
          try rw [am_uu, am_u_s]
          refine am_aload_n (pc' := 52) dX8_tell_51 rfl rfl rfl ?_
          refine am_getRk (ki := 5) (pc' := 55) (k := 5) (ci := 7) rfl dX8_tell_52 rfl fl_X8_13 (by first | assumption | exact ⟨by omega, by omega, rfl⟩) rfl (by assumption) (by omega) ?_
          refine am_iload_n (pc' := 56) dX8_tell_55 rfl rfl rfl ?_
          refine am_iaload (pc' := 57) dX8_tell_56 rfl (by first | assumption | exact ⟨by omega, by omega, rfl⟩) (by omega) (by omega) ?_
          rw [u9]
          refine am_istore_n (pc' := 58) (ls' := [_, _, _, _]) dX8_tell_57 rfl rfl (Nat.le_of_ble_eq_true rfl) rfl rfl ?_
          refine am_iload_n (pc' := 59) dX8_tell_58 rfl rfl rfl ?_
          refine am_if_ne (pc' := 62) (tgt := 66) dX8_tell_59 rfl rfl (fun c_59 => ?_) (fun c_59 => ?_)
          · refine am_iload_n (pc' := 67) dX8_tell_66 rfl rfl rfl ?_
            refine am_iconst (pc' := 68) dX8_tell_67 rfl rfl ?_
            refine am_icmp_ne (pc' := 71) (tgt := 78) dX8_tell_68 rfl rfl (fun c_68 => ?_) (fun c_68 => ?_)
            · refine am_iconst (pc' := 79) dX8_tell_78 rfl rfl ?_
              refine am_iload_n (pc' := 80) dX8_tell_79 rfl rfl rfl ?_
              refine am_imul (pc' := 81) dX8_tell_80 rfl ⟨by omega, by omega⟩ ?_
              refine am_bipush (pc' := 83) dX8_tell_81 rfl rfl (by decide) ?_
              refine am_iadd (pc' := 84) dX8_tell_83 rfl ⟨by omega, by omega⟩ ?_
              refine am_reti dX8_tell_84 rfl ?_
              first | (exfalso; omega) | exact ⟨by rw [if_neg (by omega)], rfl, by rw [if_neg (by omega), am_uid]⟩ | exact ⟨by rw [if_pos (by omega), if_pos (by omega)], rfl, by rw [if_pos (by omega), if_pos (by omega)]⟩ | exact ⟨by rw [if_pos (by omega), if_neg (by omega), if_pos (by omega)], rfl, by rw [if_pos (by omega), if_neg (by omega), if_pos (by omega)]⟩ | exact ⟨by rw [if_pos (by omega), if_neg (by omega), if_neg (by omega), show 2 * h 40 p + 100 = h 40 p + 100 + h 40 p by omega], rfl, by rw [if_pos (by omega), if_neg (by omega), if_neg (by omega)]⟩ | fail
            · refine am_iload_n (pc' := 72) dX8_tell_71 rfl rfl rfl ?_
              refine am_bipush (pc' := 74) dX8_tell_72 rfl rfl (by decide) ?_
              refine am_iadd (pc' := 75) dX8_tell_74 rfl ⟨by omega, by omega⟩ ?_
              refine am_goto (pc' := 84) dX8_tell_75 rfl ?_
              refine am_reti dX8_tell_84 rfl ?_
              first | (exfalso; omega) | exact ⟨by rw [if_neg (by omega)], rfl, by rw [if_neg (by omega), am_uid]⟩ | exact ⟨by rw [if_pos (by omega), if_pos (by omega)], rfl, by rw [if_pos (by omega), if_pos (by omega)]⟩ | exact ⟨by rw [if_pos (by omega), if_neg (by omega), if_pos (by omega)], rfl, by rw [if_pos (by omega), if_neg (by omega), if_pos (by omega)]⟩ | exact ⟨by rw [if_pos (by omega), if_neg (by omega), if_neg (by omega), show 2 * h 40 p + 100 = h 40 p + 100 + h 40 p by omega], rfl, by rw [if_pos (by omega), if_neg (by omega), if_neg (by omega)]⟩ | fail
          · refine am_iload_n (pc' := 63) dX8_tell_62 rfl rfl rfl ?_
            refine am_goto (pc' := 84) dX8_tell_63 rfl ?_
            refine am_reti dX8_tell_84 rfl ?_
            first | (exfalso; omega) | exact ⟨by rw [if_neg (by omega)], rfl, by rw [if_neg (by omega), am_uid]⟩ | exact ⟨by rw [if_pos (by omega), if_pos (by omega)], rfl, by rw [if_pos (by omega), if_pos (by omega)]⟩ | exact ⟨by rw [if_pos (by omega), if_neg (by omega), if_pos (by omega)], rfl, by rw [if_pos (by omega), if_neg (by omega), if_pos (by omega)]⟩ | exact ⟨by rw [if_pos (by omega), if_neg (by omega), if_neg (by omega), show 2 * h 40 p + 100 = h 40 p + 100 + h 40 p by omega], rfl, by rw [if_pos (by omega), if_neg (by omega), if_neg (by omega)]⟩ | fail
    · refine am_aload_n (pc' := 23) dX8_tell_22 rfl rfl rfl ?_
      refine am_iconst (pc' := 24) dX8_tell_23 rfl rfl ?_
      refine am_callV0 (pc' := 27) (as := [_]) (ci := 7)  rfl dX8_tell_24 rfl ok_X8_traced ml_X8_266 im_X8_traced se_X8_traced rfl (Nat.le_of_ble_eq_true rfl) rfl (Nat.le_of_ble_eq_true rfl) (by first | assumption | exact ⟨by omega, by omega, rfl⟩) (t8_traced hM) (fun r_24 ρ_24 h_24 q_24 g_24 e_24 => ?_)
      obtain ⟨rfl, rfl, rfl⟩ := q_24
      refine am_iload_n (pc' := 28) dX8_tell_27 rfl rfl rfl ?_
      refine am_if_le (pc' := 31) (tgt := 36) dX8_tell_28 rfl rfl (fun c_28 => ?_) (fun c_28 => ?_)
      · refine am_aload_n (pc' := 37) dX8_tell_36 rfl rfl rfl ?_
        refine am_iconst (pc' := 38) dX8_tell_37 rfl rfl ?_
        refine am_callV0 (pc' := 41) (as := [_]) (ci := 7)  rfl dX8_tell_38 rfl ok_X8_traced ml_X8_266 im_X8_traced se_X8_traced rfl (Nat.le_of_ble_eq_true rfl) rfl (Nat.le_of_ble_eq_true rfl) (by first | assumption | exact ⟨by omega, by omega, rfl⟩) (t8_traced hM) (fun r_38 ρ_38 h_38 q_38 g_38 e_38 => ?_)
        obtain ⟨rfl, rfl, rfl⟩ := q_38
        try rw [am_uu, am_u_s]
        refine am_iload_n (pc' := 42) dX8_tell_41 rfl rfl rfl ?_
        refine am_iconst (pc' := 43) dX8_tell_42 rfl rfl ?_
        refine am_icmp_ne (pc' := 46) (tgt := 51) dX8_tell_43 rfl rfl (fun c_43 => ?_) (fun c_43 => ?_)
        · refine am_aload_n (pc' := 52) dX8_tell_51 rfl rfl rfl ?_
          refine am_getRk (ki := 5) (pc' := 55) (k := 5) (ci := 7) rfl dX8_tell_52 rfl fl_X8_13 (by first | assumption | exact ⟨by omega, by omega, rfl⟩) rfl (by assumption) (by omega) ?_
          refine am_iload_n (pc' := 56) dX8_tell_55 rfl rfl rfl ?_
          refine am_iaload (pc' := 57) dX8_tell_56 rfl (by first | assumption | exact ⟨by omega, by omega, rfl⟩) (by omega) (by omega) ?_
          rw [u9]
          refine am_istore_n (pc' := 58) (ls' := [_, _, _, _]) dX8_tell_57 rfl rfl (Nat.le_of_ble_eq_true rfl) rfl rfl ?_
          refine am_iload_n (pc' := 59) dX8_tell_58 rfl rfl rfl ?_
          refine am_if_ne (pc' := 62) (tgt := 66) dX8_tell_59 rfl rfl (fun c_59 => ?_) (fun c_59 => ?_)
          · refine am_iload_n (pc' := 67) dX8_tell_66 rfl rfl rfl ?_
            refine am_iconst (pc' := 68) dX8_tell_67 rfl rfl ?_
            refine am_icmp_ne (pc' := 71) (tgt := 78) dX8_tell_68 rfl rfl (fun c_68 => ?_) (fun c_68 => ?_)
            · refine am_iconst (pc' := 79) dX8_tell_78 rfl rfl ?_
              refine am_iload_n (pc' := 80) dX8_tell_79 rfl rfl rfl ?_
              refine am_imul (pc' := 81) dX8_tell_80 rfl ⟨by omega, by omega⟩ ?_
              refine am_bipush (pc' := 83) dX8_tell_81 rfl rfl (by decide) ?_
              refine am_iadd (pc' := 84) dX8_tell_83 rfl ⟨by omega, by omega⟩ ?_
              refine am_reti dX8_tell_84 rfl ?_
              first | (exfalso; omega) | exact ⟨by rw [if_neg (by omega)], rfl, by rw [if_neg (by omega), am_uid]⟩ | exact ⟨by rw [if_pos (by omega), if_pos (by omega)], rfl, by rw [if_pos (by omega), if_pos (by omega)]⟩ | exact ⟨by rw [if_pos (by omega), if_neg (by omega), if_pos (by omega)], rfl, by rw [if_pos (by omega), if_neg (by omega), if_pos (by omega)]⟩ | exact ⟨by rw [if_pos (by omega), if_neg (by omega), if_neg (by omega), show 2 * h 40 p + 100 = h 40 p + 100 + h 40 p by omega], rfl, by rw [if_pos (by omega), if_neg (by omega), if_neg (by omega)]⟩ | fail
            · refine am_iload_n (pc' := 72) dX8_tell_71 rfl rfl rfl ?_
              refine am_bipush (pc' := 74) dX8_tell_72 rfl rfl (by decide) ?_
              refine am_iadd (pc' := 75) dX8_tell_74 rfl ⟨by omega, by omega⟩ ?_
              refine am_goto (pc' := 84) dX8_tell_75 rfl ?_
              refine am_reti dX8_tell_84 rfl ?_
              first | (exfalso; omega) | exact ⟨by rw [if_neg (by omega)], rfl, by rw [if_neg (by omega), am_uid]⟩ | exact ⟨by rw [if_pos (by omega), if_pos (by omega)], rfl, by rw [if_pos (by omega), if_pos (by omega)]⟩ | exact ⟨by rw [if_pos (by omega), if_neg (by omega), if_pos (by omega)], rfl, by rw [if_pos (by omega), if_neg (by omega), if_pos (by omega)]⟩ | exact ⟨by rw [if_pos (by omega), if_neg (by omega), if_neg (by omega), show 2 * h 40 p + 100 = h 40 p + 100 + h 40 p by omega], rfl, by rw [if_pos (by omega), if_neg (by omega), if_neg (by omega)]⟩ | fail
          · refine am_iload_n (pc' := 63) dX8_tell_62 rfl rfl rfl ?_
            refine am_goto (pc' := 84) dX8_tell_63 rfl ?_
            refine am_reti dX8_tell_84 rfl ?_
            first | (exfalso; omega) | exact ⟨by rw [if_neg (by omega)], rfl, by rw [if_neg (by omega), am_uid]⟩ | exact ⟨by rw [if_pos (by omega), if_pos (by omega)], rfl, by rw [if_pos (by omega), if_pos (by omega)]⟩ | exact ⟨by rw [if_pos (by omega), if_neg (by omega), if_pos (by omega)], rfl, by rw [if_pos (by omega), if_neg (by omega), if_pos (by omega)]⟩ | exact ⟨by rw [if_pos (by omega), if_neg (by omega), if_neg (by omega), show 2 * h 40 p + 100 = h 40 p + 100 + h 40 p by omega], rfl, by rw [if_pos (by omega), if_neg (by omega), if_neg (by omega)]⟩ | fail
        · refine am_aload_n (pc' := 47) dX8_tell_46 rfl rfl rfl ?_
          refine am_iconst (pc' := 48) dX8_tell_47 rfl rfl ?_
          refine am_callV0 (pc' := 51) (as := [_]) (ci := 7)  rfl dX8_tell_48 rfl ok_X8_traced ml_X8_266 im_X8_traced se_X8_traced rfl (Nat.le_of_ble_eq_true rfl) rfl (Nat.le_of_ble_eq_true rfl) (by first | assumption | exact ⟨by omega, by omega, rfl⟩) (t8_traced hM) (fun r_48 ρ_48 h_48 q_48 g_48 e_48 => ?_)
          obtain ⟨rfl, rfl, rfl⟩ := q_48
          try rw [am_uu, am_u_s]
          refine am_aload_n (pc' := 52) dX8_tell_51 rfl rfl rfl ?_
          refine am_getRk (ki := 5) (pc' := 55) (k := 5) (ci := 7) rfl dX8_tell_52 rfl fl_X8_13 (by first | assumption | exact ⟨by omega, by omega, rfl⟩) rfl (by assumption) (by omega) ?_
          refine am_iload_n (pc' := 56) dX8_tell_55 rfl rfl rfl ?_
          refine am_iaload (pc' := 57) dX8_tell_56 rfl (by first | assumption | exact ⟨by omega, by omega, rfl⟩) (by omega) (by omega) ?_
          rw [u9]
          refine am_istore_n (pc' := 58) (ls' := [_, _, _, _]) dX8_tell_57 rfl rfl (Nat.le_of_ble_eq_true rfl) rfl rfl ?_
          refine am_iload_n (pc' := 59) dX8_tell_58 rfl rfl rfl ?_
          refine am_if_ne (pc' := 62) (tgt := 66) dX8_tell_59 rfl rfl (fun c_59 => ?_) (fun c_59 => ?_)
          · refine am_iload_n (pc' := 67) dX8_tell_66 rfl rfl rfl ?_
            refine am_iconst (pc' := 68) dX8_tell_67 rfl rfl ?_
            refine am_icmp_ne (pc' := 71) (tgt := 78) dX8_tell_68 rfl rfl (fun c_68 => ?_) (fun c_68 => ?_)
            · refine am_iconst (pc' := 79) dX8_tell_78 rfl rfl ?_
              refine am_iload_n (pc' := 80) dX8_tell_79 rfl rfl rfl ?_
              refine am_imul (pc' := 81) dX8_tell_80 rfl ⟨by omega, by omega⟩ ?_
              refine am_bipush (pc' := 83) dX8_tell_81 rfl rfl (by decide) ?_
              refine am_iadd (pc' := 84) dX8_tell_83 rfl ⟨by omega, by omega⟩ ?_
              refine am_reti dX8_tell_84 rfl ?_
              first | (exfalso; omega) | exact ⟨by rw [if_neg (by omega)], rfl, by rw [if_neg (by omega), am_uid]⟩ | exact ⟨by rw [if_pos (by omega), if_pos (by omega)], rfl, by rw [if_pos (by omega), if_pos (by omega)]⟩ | exact ⟨by rw [if_pos (by omega), if_neg (by omega), if_pos (by omega)], rfl, by rw [if_pos (by omega), if_neg (by omega), if_pos (by omega)]⟩ | exact ⟨by rw [if_pos (by omega), if_neg (by omega), if_neg (by omega), show 2 * h 40 p + 100 = h 40 p + 100 + h 40 p by omega], rfl, by rw [if_pos (by omega), if_neg (by omega), if_neg (by omega)]⟩ | fail
            · refine am_iload_n (pc' := 72) dX8_tell_71 rfl rfl rfl ?_
              refine am_bipush (pc' := 74) dX8_tell_72 rfl rfl (by decide) ?_
              refine am_iadd (pc' := 75) dX8_tell_74 rfl ⟨by omega, by omega⟩ ?_
              refine am_goto (pc' := 84) dX8_tell_75 rfl ?_
              refine am_reti dX8_tell_84 rfl ?_
              first | (exfalso; omega) | exact ⟨by rw [if_neg (by omega)], rfl, by rw [if_neg (by omega), am_uid]⟩ | exact ⟨by rw [if_pos (by omega), if_pos (by omega)], rfl, by rw [if_pos (by omega), if_pos (by omega)]⟩ | exact ⟨by rw [if_pos (by omega), if_neg (by omega), if_pos (by omega)], rfl, by rw [if_pos (by omega), if_neg (by omega), if_pos (by omega)]⟩ | exact ⟨by rw [if_pos (by omega), if_neg (by omega), if_neg (by omega), show 2 * h 40 p + 100 = h 40 p + 100 + h 40 p by omega], rfl, by rw [if_pos (by omega), if_neg (by omega), if_neg (by omega)]⟩ | fail
          · refine am_iload_n (pc' := 63) dX8_tell_62 rfl rfl rfl ?_
            refine am_goto (pc' := 84) dX8_tell_63 rfl ?_
            refine am_reti dX8_tell_84 rfl ?_
            first | (exfalso; omega) | exact ⟨by rw [if_neg (by omega)], rfl, by rw [if_neg (by omega), am_uid]⟩ | exact ⟨by rw [if_pos (by omega), if_pos (by omega)], rfl, by rw [if_pos (by omega), if_pos (by omega)]⟩ | exact ⟨by rw [if_pos (by omega), if_neg (by omega), if_pos (by omega)], rfl, by rw [if_pos (by omega), if_neg (by omega), if_pos (by omega)]⟩ | exact ⟨by rw [if_pos (by omega), if_neg (by omega), if_neg (by omega), show 2 * h 40 p + 100 = h 40 p + 100 + h 40 p by omega], rfl, by rw [if_pos (by omega), if_neg (by omega), if_neg (by omega)]⟩ | fail
      · refine am_aload_n (pc' := 32) dX8_tell_31 rfl rfl rfl ?_
        refine am_iconst (pc' := 33) dX8_tell_32 rfl rfl ?_
        refine am_callV0 (pc' := 36) (as := [_]) (ci := 7)  rfl dX8_tell_33 rfl ok_X8_traced ml_X8_266 im_X8_traced se_X8_traced rfl (Nat.le_of_ble_eq_true rfl) rfl (Nat.le_of_ble_eq_true rfl) (by first | assumption | exact ⟨by omega, by omega, rfl⟩) (t8_traced hM) (fun r_33 ρ_33 h_33 q_33 g_33 e_33 => ?_)
        obtain ⟨rfl, rfl, rfl⟩ := q_33
        try rw [am_uu, am_u_s]
        refine am_aload_n (pc' := 37) dX8_tell_36 rfl rfl rfl ?_
        refine am_iconst (pc' := 38) dX8_tell_37 rfl rfl ?_
        refine am_callV0 (pc' := 41) (as := [_]) (ci := 7)  rfl dX8_tell_38 rfl ok_X8_traced ml_X8_266 im_X8_traced se_X8_traced rfl (Nat.le_of_ble_eq_true rfl) rfl (Nat.le_of_ble_eq_true rfl) (by first | assumption | exact ⟨by omega, by omega, rfl⟩) (t8_traced hM) (fun r_38 ρ_38 h_38 q_38 g_38 e_38 => ?_)
        obtain ⟨rfl, rfl, rfl⟩ := q_38
        try rw [am_uu, am_u_s]
        refine am_iload_n (pc' := 42) dX8_tell_41 rfl rfl rfl ?_
        refine am_iconst (pc' := 43) dX8_tell_42 rfl rfl ?_
        refine am_icmp_ne (pc' := 46) (tgt := 51) dX8_tell_43 rfl rfl (fun c_43 => ?_) (fun c_43 => ?_)
        · refine am_aload_n (pc' := 52) dX8_tell_51 rfl rfl rfl ?_
          refine am_getRk (ki := 5) (pc' := 55) (k := 5) (ci := 7) rfl dX8_tell_52 rfl fl_X8_13 (by first | assumption | exact ⟨by omega, by omega, rfl⟩) rfl (by assumption) (by omega) ?_
          refine am_iload_n (pc' := 56) dX8_tell_55 rfl rfl rfl ?_
          refine am_iaload (pc' := 57) dX8_tell_56 rfl (by first | assumption | exact ⟨by omega, by omega, rfl⟩) (by omega) (by omega) ?_
          rw [u9]
          refine am_istore_n (pc' := 58) (ls' := [_, _, _, _]) dX8_tell_57 rfl rfl (Nat.le_of_ble_eq_true rfl) rfl rfl ?_
          refine am_iload_n (pc' := 59) dX8_tell_58 rfl rfl rfl ?_
          refine am_if_ne (pc' := 62) (tgt := 66) dX8_tell_59 rfl rfl (fun c_59 => ?_) (fun c_59 => ?_)
          · refine am_iload_n (pc' := 67) dX8_tell_66 rfl rfl rfl ?_
            refine am_iconst (pc' := 68) dX8_tell_67 rfl rfl ?_
            refine am_icmp_ne (pc' := 71) (tgt := 78) dX8_tell_68 rfl rfl (fun c_68 => ?_) (fun c_68 => ?_)
            · refine am_iconst (pc' := 79) dX8_tell_78 rfl rfl ?_
              refine am_iload_n (pc' := 80) dX8_tell_79 rfl rfl rfl ?_
              refine am_imul (pc' := 81) dX8_tell_80 rfl ⟨by omega, by omega⟩ ?_
              refine am_bipush (pc' := 83) dX8_tell_81 rfl rfl (by decide) ?_
              refine am_iadd (pc' := 84) dX8_tell_83 rfl ⟨by omega, by omega⟩ ?_
              refine am_reti dX8_tell_84 rfl ?_
              first | (exfalso; omega) | exact ⟨by rw [if_neg (by omega)], rfl, by rw [if_neg (by omega), am_uid]⟩ | exact ⟨by rw [if_pos (by omega), if_pos (by omega)], rfl, by rw [if_pos (by omega), if_pos (by omega)]⟩ | exact ⟨by rw [if_pos (by omega), if_neg (by omega), if_pos (by omega)], rfl, by rw [if_pos (by omega), if_neg (by omega), if_pos (by omega)]⟩ | exact ⟨by rw [if_pos (by omega), if_neg (by omega), if_neg (by omega), show 2 * h 40 p + 100 = h 40 p + 100 + h 40 p by omega], rfl, by rw [if_pos (by omega), if_neg (by omega), if_neg (by omega)]⟩ | fail
            · refine am_iload_n (pc' := 72) dX8_tell_71 rfl rfl rfl ?_
              refine am_bipush (pc' := 74) dX8_tell_72 rfl rfl (by decide) ?_
              refine am_iadd (pc' := 75) dX8_tell_74 rfl ⟨by omega, by omega⟩ ?_
              refine am_goto (pc' := 84) dX8_tell_75 rfl ?_
              refine am_reti dX8_tell_84 rfl ?_
              first | (exfalso; omega) | exact ⟨by rw [if_neg (by omega)], rfl, by rw [if_neg (by omega), am_uid]⟩ | exact ⟨by rw [if_pos (by omega), if_pos (by omega)], rfl, by rw [if_pos (by omega), if_pos (by omega)]⟩ | exact ⟨by rw [if_pos (by omega), if_neg (by omega), if_pos (by omega)], rfl, by rw [if_pos (by omega), if_neg (by omega), if_pos (by omega)]⟩ | exact ⟨by rw [if_pos (by omega), if_neg (by omega), if_neg (by omega), show 2 * h 40 p + 100 = h 40 p + 100 + h 40 p by omega], rfl, by rw [if_pos (by omega), if_neg (by omega), if_neg (by omega)]⟩ | fail
          · refine am_iload_n (pc' := 63) dX8_tell_62 rfl rfl rfl ?_
            refine am_goto (pc' := 84) dX8_tell_63 rfl ?_
            refine am_reti dX8_tell_84 rfl ?_
            first | (exfalso; omega) | exact ⟨by rw [if_neg (by omega)], rfl, by rw [if_neg (by omega), am_uid]⟩ | exact ⟨by rw [if_pos (by omega), if_pos (by omega)], rfl, by rw [if_pos (by omega), if_pos (by omega)]⟩ | exact ⟨by rw [if_pos (by omega), if_neg (by omega), if_pos (by omega)], rfl, by rw [if_pos (by omega), if_neg (by omega), if_pos (by omega)]⟩ | exact ⟨by rw [if_pos (by omega), if_neg (by omega), if_neg (by omega), show 2 * h 40 p + 100 = h 40 p + 100 + h 40 p by omega], rfl, by rw [if_pos (by omega), if_neg (by omega), if_neg (by omega)]⟩ | fail
        · refine am_aload_n (pc' := 47) dX8_tell_46 rfl rfl rfl ?_
          refine am_iconst (pc' := 48) dX8_tell_47 rfl rfl ?_
          refine am_callV0 (pc' := 51) (as := [_]) (ci := 7)  rfl dX8_tell_48 rfl ok_X8_traced ml_X8_266 im_X8_traced se_X8_traced rfl (Nat.le_of_ble_eq_true rfl) rfl (Nat.le_of_ble_eq_true rfl) (by first | assumption | exact ⟨by omega, by omega, rfl⟩) (t8_traced hM) (fun r_48 ρ_48 h_48 q_48 g_48 e_48 => ?_)
          obtain ⟨rfl, rfl, rfl⟩ := q_48
          try rw [am_uu, am_u_s]
          refine am_aload_n (pc' := 52) dX8_tell_51 rfl rfl rfl ?_
          refine am_getRk (ki := 5) (pc' := 55) (k := 5) (ci := 7) rfl dX8_tell_52 rfl fl_X8_13 (by first | assumption | exact ⟨by omega, by omega, rfl⟩) rfl (by assumption) (by omega) ?_
          refine am_iload_n (pc' := 56) dX8_tell_55 rfl rfl rfl ?_
          refine am_iaload (pc' := 57) dX8_tell_56 rfl (by first | assumption | exact ⟨by omega, by omega, rfl⟩) (by omega) (by omega) ?_
          rw [u9]
          refine am_istore_n (pc' := 58) (ls' := [_, _, _, _]) dX8_tell_57 rfl rfl (Nat.le_of_ble_eq_true rfl) rfl rfl ?_
          refine am_iload_n (pc' := 59) dX8_tell_58 rfl rfl rfl ?_
          refine am_if_ne (pc' := 62) (tgt := 66) dX8_tell_59 rfl rfl (fun c_59 => ?_) (fun c_59 => ?_)
          · refine am_iload_n (pc' := 67) dX8_tell_66 rfl rfl rfl ?_
            refine am_iconst (pc' := 68) dX8_tell_67 rfl rfl ?_
            refine am_icmp_ne (pc' := 71) (tgt := 78) dX8_tell_68 rfl rfl (fun c_68 => ?_) (fun c_68 => ?_)
            · refine am_iconst (pc' := 79) dX8_tell_78 rfl rfl ?_
              refine am_iload_n (pc' := 80) dX8_tell_79 rfl rfl rfl ?_
              refine am_imul (pc' := 81) dX8_tell_80 rfl ⟨by omega, by omega⟩ ?_
              refine am_bipush (pc' := 83) dX8_tell_81 rfl rfl (by decide) ?_
              refine am_iadd (pc' := 84) dX8_tell_83 rfl ⟨by omega, by omega⟩ ?_
              refine am_reti dX8_tell_84 rfl ?_
              first | (exfalso; omega) | exact ⟨by rw [if_neg (by omega)], rfl, by rw [if_neg (by omega), am_uid]⟩ | exact ⟨by rw [if_pos (by omega), if_pos (by omega)], rfl, by rw [if_pos (by omega), if_pos (by omega)]⟩ | exact ⟨by rw [if_pos (by omega), if_neg (by omega), if_pos (by omega)], rfl, by rw [if_pos (by omega), if_neg (by omega), if_pos (by omega)]⟩ | exact ⟨by rw [if_pos (by omega), if_neg (by omega), if_neg (by omega), show 2 * h 40 p + 100 = h 40 p + 100 + h 40 p by omega], rfl, by rw [if_pos (by omega), if_neg (by omega), if_neg (by omega)]⟩ | fail
            · refine am_iload_n (pc' := 72) dX8_tell_71 rfl rfl rfl ?_
              refine am_bipush (pc' := 74) dX8_tell_72 rfl rfl (by decide) ?_
              refine am_iadd (pc' := 75) dX8_tell_74 rfl ⟨by omega, by omega⟩ ?_
              refine am_goto (pc' := 84) dX8_tell_75 rfl ?_
              refine am_reti dX8_tell_84 rfl ?_
              first | (exfalso; omega) | exact ⟨by rw [if_neg (by omega)], rfl, by rw [if_neg (by omega), am_uid]⟩ | exact ⟨by rw [if_pos (by omega), if_pos (by omega)], rfl, by rw [if_pos (by omega), if_pos (by omega)]⟩ | exact ⟨by rw [if_pos (by omega), if_neg (by omega), if_pos (by omega)], rfl, by rw [if_pos (by omega), if_neg (by omega), if_pos (by omega)]⟩ | exact ⟨by rw [if_pos (by omega), if_neg (by omega), if_neg (by omega), show 2 * h 40 p + 100 = h 40 p + 100 + h 40 p by omega], rfl, by rw [if_pos (by omega), if_neg (by omega), if_neg (by omega)]⟩ | fail
          · refine am_iload_n (pc' := 63) dX8_tell_62 rfl rfl rfl ?_
            refine am_goto (pc' := 84) dX8_tell_63 rfl ?_
            refine am_reti dX8_tell_84 rfl ?_
            first | (exfalso; omega) | exact ⟨by rw [if_neg (by omega)], rfl, by rw [if_neg (by omega), am_uid]⟩ | exact ⟨by rw [if_pos (by omega), if_pos (by omega)], rfl, by rw [if_pos (by omega), if_pos (by omega)]⟩ | exact ⟨by rw [if_pos (by omega), if_neg (by omega), if_pos (by omega)], rfl, by rw [if_pos (by omega), if_neg (by omega), if_pos (by omega)]⟩ | exact ⟨by rw [if_pos (by omega), if_neg (by omega), if_neg (by omega), show 2 * h 40 p + 100 = h 40 p + 100 + h 40 p by omega], rfl, by rw [if_pos (by omega), if_neg (by omega), if_neg (by omega)]⟩ | fail
  · simp only [am_z0, am_z1, ne_eq] at c_5
    refine am_iconst (pc' := 9) dX8_tell_8 rfl rfl ?_
    refine am_reti dX8_tell_9 rfl ?_
    first | (exfalso; omega) | exact ⟨by rw [if_neg (by omega)], rfl, by rw [if_neg (by omega), am_uid]⟩ | exact ⟨by rw [if_pos (by omega), if_pos (by omega)], rfl, by rw [if_pos (by omega), if_pos (by omega)]⟩ | exact ⟨by rw [if_pos (by omega), if_neg (by omega), if_pos (by omega)], rfl, by rw [if_pos (by omega), if_neg (by omega), if_pos (by omega)]⟩ | exact ⟨by rw [if_pos (by omega), if_neg (by omega), if_neg (by omega), show 2 * h 40 p + 100 = h 40 p + 100 + h 40 p by omega], rfl, by rw [if_pos (by omega), if_neg (by omega), if_neg (by omega)]⟩ | fail
