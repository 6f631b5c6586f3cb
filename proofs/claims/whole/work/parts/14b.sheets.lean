/-! DifferRings: sheets, kinds, firsts, the common divisor -/
theorem sh_ofb (l s i n : Int) : 0 ≤ sh_of l s i n ∧ sh_of l s i n ≤ 4 := by
  unfold sh_of
  split
  · omega
  · split
    · omega
    · split <;> omega
theorem sh_asb (l s a i n : Int) : 0 ≤ sh_as l s a i n ∧ sh_as l s a i n ≤ 4 := by
  unfold sh_as
  split
  · omega
  · exact sh_ofb _ _ _ _
theorem sh_of0 {l s i n : Int} (h : sh_of l s i n = 0) : l ≠ -1 ∧ 0 ≤ n ∧ 0 ≤ i ∧ i + n ≤ s := by
  unfold sh_of at h
  split at h
  · omega
  · split at h
    · omega
    · split at h <;> omega
theorem sh_as0 {l s a i n : Int} (h : sh_as l s a i n = 0) : l ≠ -1 ∧ l = a ∧ 0 ≤ n ∧ 0 ≤ i ∧ i + n ≤ s := by
  unfold sh_as at h
  split at h
  · omega
  · have := sh_of0 h
    omega
theorem t_sheet {ρ h : am_H} {k l n : Int} (hC : am_LC ρ) : am_CT mX7_sheet 0 0 [am_R 1, am_I k, am_I l, am_I n] ρ h (fun r ρ' h' => ρ' = ρ ∧ ((¬ (0 ≤ k ∧ k < 4) ∧ r = some (am_I (-1)) ∧ h' = am_u h 1 9 0) ∨ ((0 ≤ k ∧ k < 4) ∧ ¬ ((0 ≤ l ∧ l < 3) ∧ n ≤ 60) ∧ r = some (am_I (-2)) ∧ h' = am_u h 1 9 0) ∨ ((0 ≤ k ∧ k < 4) ∧ ((0 ≤ l ∧ l < 3) ∧ n ≤ 60) ∧ n < 0 ∧ r = some (am_I (-14)) ∧ h' = am_u h 1 9 4) ∨
    ((0 ≤ k ∧ k < 4) ∧ ((0 ≤ l ∧ l < 3) ∧ n ≤ 60) ∧ 0 ≤ n ∧ r = some (am_I 1) ∧ am_fr [3 + 2 * k, 3 + 2 * k + 1] (am_u h 1 9 0) h' ∧ h' (3 + 2 * k) 0 = l ∧ h' (3 + 2 * k) 1 = n ∧ ∀ i, 0 ≤ i → i < 60 → h' (3 + 2 * k + 1) i = 0))) := by
  have hn58 := hC.1
  have e1 := am_lc hC 1 0 2 (by decide)
  have e2 := am_lc hC 2 (-1) 4 (by decide)
  refine am_ct (ls := [some (am_R 1), some (am_I k), some (am_I l), some (am_I n)]) ok_X7_sheet rfl (fun _ => Nat.le_of_ble_eq_true rfl) (fun _ => rfl) (by intro v hv; simpa using hv) ?_
  refine am_aload_n (pc' := 1) dX7_sheet_0 rfl rfl rfl ?_
  refine am_iconst (pc' := 2) dX7_sheet_1 rfl rfl ?_
  refine am_putIk (ki := 9) (pc' := 5) (k := 9) (ci := 6) rfl dX7_sheet_2 rfl fl_X7_56 (by first | assumption | exact ⟨by omega, by omega, rfl⟩) rfl (fun _ _ _ e => by cases e; rfl) ?_
  refine am_iload_n (pc' := 6) dX7_sheet_5 rfl rfl rfl ?_
  refine am_callSp (pc' := 9) (as := [_])  rfl dX7_sheet_6 rfl ok_X7_isSheet ml_X7_60 sm_X7_isSheet (Nat.le_of_ble_eq_true rfl) rfl (Nat.le_of_ble_eq_true rfl) (t_isSheet) ?_
  refine am_if_ne (pc' := 12) (tgt := 14) dX7_sheet_9 rfl rfl (fun c_9 => ?_) (fun c_9 => ?_)
  · simp only [am_z0, am_z1, ne_eq] at c_9
    refine am_iload_n (pc' := 15) dX7_sheet_14 rfl rfl rfl ?_
    refine am_callSp (pc' := 18) (as := [_])  rfl dX7_sheet_15 rfl ok_X7_isLane ml_X7_64 sm_X7_isLane (Nat.le_of_ble_eq_true rfl) rfl (Nat.le_of_ble_eq_true rfl) (t_isLane) ?_
    refine am_if_eq (pc' := 21) (tgt := 27) dX7_sheet_18 rfl rfl (fun c_18 => ?_) (fun c_18 => ?_)
    · simp only [am_z0, am_z1, ne_eq] at c_18
      refine am_bipush (pc' := 29) dX7_sheet_27 rfl rfl (by decide) ?_
      refine am_reti dX7_sheet_29 rfl ?_
      exact ⟨rfl, Or.inr (Or.inl ⟨by omega, by omega, rfl, rfl⟩)⟩
    · simp only [am_z0, am_z1, ne_eq] at c_18
      refine am_iload_n (pc' := 22) dX7_sheet_21 rfl rfl rfl ?_
      refine am_bipush (pc' := 24) dX7_sheet_22 rfl rfl (by decide) ?_
      refine am_icmp_le (pc' := 27) (tgt := 30) dX7_sheet_24 rfl rfl (fun c_24 => ?_) (fun c_24 => ?_)
      · refine am_iload_n (pc' := 31) dX7_sheet_30 rfl rfl rfl ?_
        refine am_if_ge (pc' := 34) (tgt := 44) dX7_sheet_31 rfl rfl (fun c_31 => ?_) (fun c_31 => ?_)
        · refine am_aload_n (pc' := 45) dX7_sheet_44 rfl rfl rfl ?_
          refine am_getRk (ki := 0) (pc' := 48) (k := 0) (ci := 6) rfl dX7_sheet_45 rfl fl_X7_13 (by first | assumption | exact ⟨by omega, by omega, rfl⟩) rfl (by assumption) (by omega) ?_
          obtain ⟨hS, eS⟩ := am_SAk hC (show 0 ≤ k by omega) (by omega)
          obtain ⟨i1, i2, i3, i4⟩ := id hS
          refine am_iload_n (pc' := 49) dX7_sheet_48 rfl rfl rfl ?_
          refine am_aaload (pc' := 50) dX7_sheet_49 rfl (by first | assumption | exact ⟨by omega, by omega, rfl⟩) (by omega) (by omega) (by assumption) (by omega) ?_
          refine am_iload_n (pc' := 51) dX7_sheet_50 rfl rfl rfl ?_
          refine am_iload_n (pc' := 52) dX7_sheet_51 rfl rfl rfl ?_
          refine am_callV0 (pc' := 55) (as := [_, _]) (ci := 4)  rfl dX7_sheet_52 rfl ok_X4_renew ml_X7_251 im_X4_renew se_X4_renew rfl (Nat.le_of_ble_eq_true rfl) rfl (Nat.le_of_ble_eq_true rfl) (by first | assumption | exact ⟨by omega, by omega, rfl⟩) (t_renew hS) (fun r_52 ρ_52 h_52 q_52 g_52 e_52 => ?_)
          obtain ⟨rfl, rfl, q1, q2, q3, q4⟩ := q_52
          refine am_iconst (pc' := 56) dX7_sheet_55 rfl rfl ?_
          refine am_reti dX7_sheet_56 rfl ?_
          exact ⟨rfl, Or.inr (Or.inr (Or.inr ⟨by omega, by omega, by omega, rfl, q1, q2, q3, q4⟩))⟩
        · refine am_aload_n (pc' := 35) dX7_sheet_34 rfl rfl rfl ?_
          refine am_iconst (pc' := 36) dX7_sheet_35 rfl rfl ?_
          refine am_putIk (ki := 9) (pc' := 39) (k := 9) (ci := 6) rfl dX7_sheet_36 rfl fl_X7_56 (by first | assumption | exact ⟨by omega, by omega, rfl⟩) rfl (fun _ _ _ e => by cases e; rfl) ?_
          refine am_aload_n (pc' := 40) dX7_sheet_39 rfl rfl rfl ?_
          refine am_callVp (pc' := 43) (as := []) (ci := 6)  rfl dX7_sheet_40 rfl ok_X7_answerOfFault ml_X7_71 im_X7_answerOfFault se_X7_answerOfFault rfl (Nat.le_of_ble_eq_true rfl) rfl (Nat.le_of_ble_eq_true rfl) (by first | assumption | exact ⟨by omega, by omega, rfl⟩) (t_answerOfFault hC (by rw [am_u_s]; omega)) ?_
          refine am_reti dX7_sheet_43 rfl ?_
          exact ⟨rfl, Or.inr (Or.inr (Or.inl ⟨by omega, by omega, by omega, by rw [am_u_s]; rfl, am_uu⟩))⟩
      · refine am_bipush (pc' := 29) dX7_sheet_27 rfl rfl (by decide) ?_
        refine am_reti dX7_sheet_29 rfl ?_
        exact ⟨rfl, Or.inr (Or.inl ⟨by omega, by omega, rfl, rfl⟩)⟩
  · simp only [am_z0, am_z1, ne_eq] at c_9
    refine am_iconst (pc' := 13) dX7_sheet_12 rfl rfl ?_
    refine am_reti dX7_sheet_13 rfl ?_
    exact ⟨rfl, Or.inl ⟨by omega, rfl, rfl⟩⟩
theorem t_lose {ρ h : am_H} {k : Int} (hC : am_LC ρ) : am_CT mX7_lose 0 0 [am_R 1, am_I k] ρ h (fun r ρ' h' => ρ' = ρ ∧ ((¬ (0 ≤ k ∧ k < 4) ∧ r = some (am_I (-1)) ∧ h' = h) ∨ ((0 ≤ k ∧ k < 4) ∧ r = some (am_I (if h (3 + 2 * k) 0 = -1 then 0 else 1)) ∧ h' = am_u (am_u h (3 + 2 * k) 0 (-1)) (3 + 2 * k) 1 0))) := by
  have hn58 := hC.1
  have e1 := am_lc hC 1 0 2 (by decide)
  have e2 := am_lc hC 2 (-1) 4 (by decide)
  refine am_ct (ls := [some (am_R 1), some (am_I k), none]) ok_X7_lose rfl (fun _ => Nat.le_of_ble_eq_true rfl) (fun _ => rfl) (by intro v hv; simpa using hv) ?_
  refine am_iload_n (pc' := 1) dX7_lose_0 rfl rfl rfl ?_
  refine am_callSp (pc' := 4) (as := [_])  rfl dX7_lose_1 rfl ok_X7_isSheet ml_X7_60 sm_X7_isSheet (Nat.le_of_ble_eq_true rfl) rfl (Nat.le_of_ble_eq_true rfl) (t_isSheet) ?_
  refine am_if_ne (pc' := 7) (tgt := 9) dX7_lose_4 rfl rfl (fun c_4 => ?_) (fun c_4 => ?_)
  · simp only [am_z0, am_z1, ne_eq] at c_4
    refine am_aload_n (pc' := 10) dX7_lose_9 rfl rfl rfl ?_
    refine am_getRk (ki := 0) (pc' := 13) (k := 0) (ci := 6) rfl dX7_lose_10 rfl fl_X7_13 (by first | assumption | exact ⟨by omega, by omega, rfl⟩) rfl (by assumption) (by omega) ?_
    obtain ⟨hS, eS⟩ := am_SAk hC (show 0 ≤ k by omega) (by omega)
    obtain ⟨i1, i2, i3, i4⟩ := id hS
    refine am_iload_n (pc' := 14) dX7_lose_13 rfl rfl rfl ?_
    refine am_aaload (pc' := 15) dX7_lose_14 rfl (by first | assumption | exact ⟨by omega, by omega, rfl⟩) (by omega) (by omega) (by assumption) (by omega) ?_
    refine am_callVp (pc' := 18) (as := []) (ci := 4)  rfl dX7_lose_15 rfl ok_X4_hasNothing ml_X7_255 im_X4_hasNothing se_X4_hasNothing rfl (Nat.le_of_ble_eq_true rfl) rfl (Nat.le_of_ble_eq_true rfl) (by first | assumption | exact ⟨by omega, by omega, rfl⟩) (t_hasNothing hS) ?_
    refine am_if_eq (pc' := 21) (tgt := 25) dX7_lose_18 rfl rfl (fun c_18 => ?_) (fun c_18 => ?_)
    · simp only [am_z0, am_z1, ne_eq] at c_18
      refine am_iconst (pc' := 26) dX7_lose_25 rfl rfl ?_
      refine am_istore_n (pc' := 27) (ls' := [_, _, _]) dX7_lose_26 rfl rfl (Nat.le_of_ble_eq_true rfl) rfl rfl ?_
      refine am_aload_n (pc' := 28) dX7_lose_27 rfl rfl rfl ?_
      refine am_getRk (ki := 0) (pc' := 31) (k := 0) (ci := 6) rfl dX7_lose_28 rfl fl_X7_13 (by first | assumption | exact ⟨by omega, by omega, rfl⟩) rfl (by assumption) (by omega) ?_
      refine am_iload_n (pc' := 32) dX7_lose_31 rfl rfl rfl ?_
      refine am_aaload (pc' := 33) dX7_lose_32 rfl (by first | assumption | exact ⟨by omega, by omega, rfl⟩) (by omega) (by omega) (by assumption) (by omega) ?_
      refine am_callV0 (pc' := 36) (as := []) (ci := 4)  rfl dX7_lose_33 rfl ok_X4_drop ml_X7_258 im_X4_drop se_X4_drop rfl (Nat.le_of_ble_eq_true rfl) rfl (Nat.le_of_ble_eq_true rfl) (by first | assumption | exact ⟨by omega, by omega, rfl⟩) (t_drop hS) (fun r_33 ρ_33 h_33 q_33 g_33 e_33 => ?_)
      obtain ⟨rfl, rfl, rfl⟩ := q_33
      refine am_iload_n (pc' := 37) dX7_lose_36 rfl rfl rfl ?_
      refine am_reti dX7_lose_37 rfl ?_
      exact ⟨rfl, Or.inr ⟨by omega, by first | rw [if_pos (by omega)] | rw [if_neg (by omega)], rfl⟩⟩
    · simp only [am_z0, am_z1, ne_eq] at c_18
      refine am_iconst (pc' := 22) dX7_lose_21 rfl rfl ?_
      refine am_goto (pc' := 26) dX7_lose_22 rfl ?_
      refine am_istore_n (pc' := 27) (ls' := [_, _, _]) dX7_lose_26 rfl rfl (Nat.le_of_ble_eq_true rfl) rfl rfl ?_
      refine am_aload_n (pc' := 28) dX7_lose_27 rfl rfl rfl ?_
      refine am_getRk (ki := 0) (pc' := 31) (k := 0) (ci := 6) rfl dX7_lose_28 rfl fl_X7_13 (by first | assumption | exact ⟨by omega, by omega, rfl⟩) rfl (by assumption) (by omega) ?_
      refine am_iload_n (pc' := 32) dX7_lose_31 rfl rfl rfl ?_
      refine am_aaload (pc' := 33) dX7_lose_32 rfl (by first | assumption | exact ⟨by omega, by omega, rfl⟩) (by omega) (by omega) (by assumption) (by omega) ?_
      refine am_callV0 (pc' := 36) (as := []) (ci := 4)  rfl dX7_lose_33 rfl ok_X4_drop ml_X7_258 im_X4_drop se_X4_drop rfl (Nat.le_of_ble_eq_true rfl) rfl (Nat.le_of_ble_eq_true rfl) (by first | assumption | exact ⟨by omega, by omega, rfl⟩) (t_drop hS) (fun r_33 ρ_33 h_33 q_33 g_33 e_33 => ?_)
      obtain ⟨rfl, rfl, rfl⟩ := q_33
      refine am_iload_n (pc' := 37) dX7_lose_36 rfl rfl rfl ?_
      refine am_reti dX7_lose_37 rfl ?_
      exact ⟨rfl, Or.inr ⟨by omega, by first | rw [if_pos (by omega)] | rw [if_neg (by omega)], rfl⟩⟩
  · simp only [am_z0, am_z1, ne_eq] at c_4
    refine am_iconst (pc' := 8) dX7_lose_7 rfl rfl ?_
    refine am_reti dX7_lose_8 rfl ?_
    exact ⟨rfl, Or.inl ⟨by omega, rfl, rfl⟩⟩
theorem t_put {ρ h : am_H} {k i v : Int} (hC : am_LC ρ) (hG : cl_S h) : am_CT mX7_put 0 0 [am_R 1, am_I k, am_I i, am_I v] ρ h (fun r ρ' h' => ρ' = ρ ∧ ((¬ (0 ≤ k ∧ k < 4) ∧ r = some (am_I (-1)) ∧ h' = am_u h 1 9 0) ∨ ((0 ≤ k ∧ k < 4) ∧ sh_of (h (3 + 2 * k) 0) (h (3 + 2 * k) 1) i 1 ≠ 0 ∧ r = some (am_I (-10 - sh_of (h (3 + 2 * k) 0) (h (3 + 2 * k) 1) i 1)) ∧ h' = am_u h 1 9 (sh_of (h (3 + 2 * k) 0) (h (3 + 2 * k) 1) i 1)) ∨
    ((0 ≤ k ∧ k < 4) ∧ sh_of (h (3 + 2 * k) 0) (h (3 + 2 * k) 1) i 1 = 0 ∧ r = some (am_I 1) ∧ h' = am_u (am_u h 1 9 0) (3 + 2 * k + 1) i (sh_cut (h (3 + 2 * k) 0) v)))) := by
  have hn58 := hC.1
  have e1 := am_lc hC 1 0 2 (by decide)
  have e2 := am_lc hC 2 (-1) 4 (by decide)
  refine am_ct (ls := [some (am_R 1), some (am_I k), some (am_I i), some (am_I v)]) ok_X7_put rfl (fun _ => Nat.le_of_ble_eq_true rfl) (fun _ => rfl) (by intro v hv; simpa using hv) ?_
  refine am_aload_n (pc' := 1) dX7_put_0 rfl rfl rfl ?_
  refine am_iconst (pc' := 2) dX7_put_1 rfl rfl ?_
  refine am_putIk (ki := 9) (pc' := 5) (k := 9) (ci := 6) rfl dX7_put_2 rfl fl_X7_56 (by first | assumption | exact ⟨by omega, by omega, rfl⟩) rfl (fun _ _ _ e => by cases e; rfl) ?_
  refine am_iload_n (pc' := 6) dX7_put_5 rfl rfl rfl ?_
  refine am_callSp (pc' := 9) (as := [_])  rfl dX7_put_6 rfl ok_X7_isSheet ml_X7_60 sm_X7_isSheet (Nat.le_of_ble_eq_true rfl) rfl (Nat.le_of_ble_eq_true rfl) (t_isSheet) ?_
  refine am_if_ne (pc' := 12) (tgt := 14) dX7_put_9 rfl rfl (fun c_9 => ?_) (fun c_9 => ?_)
  · simp only [am_z0, am_z1, ne_eq] at c_9
    obtain ⟨hS, eS⟩ := am_SAk hC (show 0 ≤ k by omega) (by omega)
    obtain ⟨i1, i2, i3, i4⟩ := id hS
    have hO := (hG k (by omega) (by omega)).1
    have u0 : am_u h 1 9 0 (3 + 2 * k) 0 = h (3 + 2 * k) 0 := am_u_n (by omega)
    have u1 : am_u h 1 9 0 (3 + 2 * k) 1 = h (3 + 2 * k) 1 := am_u_n (by omega)
    have hb := sh_ofb (h (3 + 2 * k) 0) (h (3 + 2 * k) 1) i 1
    refine am_aload_n (pc' := 15) dX7_put_14 rfl rfl rfl ?_
    refine am_aload_n (pc' := 16) dX7_put_15 rfl rfl rfl ?_
    refine am_getRk (ki := 0) (pc' := 19) (k := 0) (ci := 6) rfl dX7_put_16 rfl fl_X7_13 (by first | assumption | exact ⟨by omega, by omega, rfl⟩) rfl (by assumption) (by omega) ?_
    refine am_iload_n (pc' := 20) dX7_put_19 rfl rfl rfl ?_
    refine am_aaload (pc' := 21) dX7_put_20 rfl (by first | assumption | exact ⟨by omega, by omega, rfl⟩) (by omega) (by omega) (by assumption) (by omega) ?_
    refine am_iload_n (pc' := 22) dX7_put_21 rfl rfl rfl ?_
    refine am_iconst (pc' := 23) dX7_put_22 rfl rfl ?_
    refine am_callVp (pc' := 26) (as := [_, _]) (ci := 4)  rfl dX7_put_23 rfl ok_X4_faultOf ml_X7_261 im_X4_faultOf se_X4_faultOf rfl (Nat.le_of_ble_eq_true rfl) rfl (Nat.le_of_ble_eq_true rfl) (by first | assumption | exact ⟨by omega, by omega, rfl⟩) (t_faultOf hS (by unfold am_SO; rw [u1]; exact hO)) ?_
    rw [u0, u1]
    refine am_putIk (ki := 9) (pc' := 29) (k := 9) (ci := 6) rfl dX7_put_26 rfl fl_X7_56 (by first | assumption | exact ⟨by omega, by omega, rfl⟩) rfl (fun _ _ _ e => by cases e; rfl) ?_
    rw [am_uu]
    refine am_aload_n (pc' := 30) dX7_put_29 rfl rfl rfl ?_
    refine am_getIk (ki := 9) (pc' := 33) (k := 9) (ci := 6) rfl dX7_put_30 rfl fl_X7_56 (by first | assumption | exact ⟨by omega, by omega, rfl⟩) rfl ?_
    rw [am_u_s]
    refine am_if_eq (pc' := 36) (tgt := 41) dX7_put_33 rfl rfl (fun c_33 => ?_) (fun c_33 => ?_)
    · have hz := sh_of0 c_33
      refine am_aload_n (pc' := 42) dX7_put_41 rfl rfl rfl ?_
      refine am_getRk (ki := 0) (pc' := 45) (k := 0) (ci := 6) rfl dX7_put_42 rfl fl_X7_13 (by first | assumption | exact ⟨by omega, by omega, rfl⟩) rfl (by assumption) (by omega) ?_
      refine am_iload_n (pc' := 46) dX7_put_45 rfl rfl rfl ?_
      refine am_aaload (pc' := 47) dX7_put_46 rfl (by first | assumption | exact ⟨by omega, by omega, rfl⟩) (by omega) (by omega) (by assumption) (by omega) ?_
      refine am_iload_n (pc' := 48) dX7_put_47 rfl rfl rfl ?_
      refine am_iload_n (pc' := 49) dX7_put_48 rfl rfl rfl ?_
      refine am_callV0 (pc' := 52) (as := [_, _]) (ci := 4)  rfl dX7_put_49 rfl ok_X4_change ml_X7_264 im_X4_change se_X4_change rfl (Nat.le_of_ble_eq_true rfl) rfl (Nat.le_of_ble_eq_true rfl) (by first | assumption | exact ⟨by omega, by omega, rfl⟩) (t_change hS (by unfold am_SO; rw [am_u_n (by omega)]; exact hO) (by omega) (by rw [am_u_n (by omega)]; omega)) (fun r_49 ρ_49 h_49 q_49 g_49 e_49 => ?_)
      obtain ⟨rfl, rfl, q2⟩ := q_49
      rw [am_u_n (by omega), c_33] at q2
      refine am_iconst (pc' := 53) dX7_put_52 rfl rfl ?_
      refine am_reti dX7_put_53 rfl ?_
      exact ⟨rfl, Or.inr (Or.inr ⟨by omega, c_33, rfl, q2⟩)⟩
    · refine am_aload_n (pc' := 37) dX7_put_36 rfl rfl rfl ?_
      refine am_callVp (pc' := 40) (as := []) (ci := 6)  rfl dX7_put_37 rfl ok_X7_answerOfFault ml_X7_71 im_X7_answerOfFault se_X7_answerOfFault rfl (Nat.le_of_ble_eq_true rfl) rfl (Nat.le_of_ble_eq_true rfl) (by first | assumption | exact ⟨by omega, by omega, rfl⟩) (t_answerOfFault hC (by rw [am_u_s]; exact hb)) ?_
      refine am_reti dX7_put_40 rfl ?_
      exact ⟨rfl, Or.inr (Or.inl ⟨by omega, c_33, by rw [am_u_s], rfl⟩)⟩
  · simp only [am_z0, am_z1, ne_eq] at c_9
    refine am_iconst (pc' := 13) dX7_put_12 rfl rfl ?_
    refine am_reti dX7_put_13 rfl ?_
    exact ⟨rfl, Or.inl ⟨by omega, rfl, rfl⟩⟩
theorem cl_cellv {h : am_H} {k l i f : Int} (hk : 0 ≤ k ∧ k < 4) (hz : sh_as (h (3 + 2 * k) 0) (h (3 + 2 * k) 1) l i 1 = 0) : some (am_L (sh_at (am_u h 1 9 f) (3 + 2 * k) i)) = some (am_L (if sh_as (h (3 + 2 * k) 0) (h (3 + 2 * k) 1) l i 1 = 0 then h (3 + 2 * k + 1) i else -9223372036854775808)) := by
  have h1 := sh_as0 hz
  rw [if_pos hz]
  unfold sh_at
  rw [am_u_n (by omega), am_u_n (by omega), if_pos (by omega)]
theorem t_cell {ρ h : am_H} {k i l : Int} (hC : am_LC ρ) (hG : cl_S h) : am_CT mX7_cell 0 0 [am_R 1, am_I k, am_I i, am_I l] ρ h (fun r ρ' h' => ρ' = ρ ∧ ((¬ ((0 ≤ k ∧ k < 4) ∧ 0 ≤ l ∧ l < 3) ∧ r = some (am_L (-9223372036854775808)) ∧ h' = am_u h 1 9 0) ∨ (((0 ≤ k ∧ k < 4) ∧ 0 ≤ l ∧ l < 3) ∧ h' = am_u h 1 9 (sh_as (h (3 + 2 * k) 0) (h (3 + 2 * k) 1) l i 1) ∧ r = some (am_L (if sh_as (h (3 + 2 * k) 0) (h (3 + 2 * k) 1) l i 1 = 0 then h (3 + 2 * k + 1) i else -9223372036854775808))))) := by
  have hn58 := hC.1
  have e1 := am_lc hC 1 0 2 (by decide)
  have e2 := am_lc hC 2 (-1) 4 (by decide)
  refine am_ct (ls := [some (am_R 1), some (am_I k), some (am_I i), some (am_I l)]) ok_X7_cell rfl (fun _ => Nat.le_of_ble_eq_true rfl) (fun _ => rfl) (by intro v hv; simpa using hv) ?_
  refine am_aload_n (pc' := 1) dX7_cell_0 rfl rfl rfl ?_
  refine am_iconst (pc' := 2) dX7_cell_1 rfl rfl ?_
  refine am_putIk (ki := 9) (pc' := 5) (k := 9) (ci := 6) rfl dX7_cell_2 rfl fl_X7_56 (by first | assumption | exact ⟨by omega, by omega, rfl⟩) rfl (fun _ _ _ e => by cases e; rfl) ?_
  refine am_iload_n (pc' := 6) dX7_cell_5 rfl rfl rfl ?_
  refine am_callSp (pc' := 9) (as := [_])  rfl dX7_cell_6 rfl ok_X7_isSheet ml_X7_60 sm_X7_isSheet (Nat.le_of_ble_eq_true rfl) rfl (Nat.le_of_ble_eq_true rfl) (t_isSheet) ?_
  refine am_if_eq (pc' := 12) (tgt := 19) dX7_cell_9 rfl rfl (fun c_9 => ?_) (fun c_9 => ?_)
  · simp only [am_z0, am_z1, ne_eq] at c_9
    refine am_ldc2 (pc' := 22) (x := -9223372036854775808) dX7_cell_19 rfl kl_X7_238 rfl rfl ?_
    refine am_retl dX7_cell_22 rfl ?_
    exact ⟨rfl, Or.inl ⟨by omega, rfl, rfl⟩⟩
  · simp only [am_z0, am_z1, ne_eq] at c_9
    refine am_iload_n (pc' := 13) dX7_cell_12 rfl rfl rfl ?_
    refine am_callSp (pc' := 16) (as := [_])  rfl dX7_cell_13 rfl ok_X7_isLane ml_X7_64 sm_X7_isLane (Nat.le_of_ble_eq_true rfl) rfl (Nat.le_of_ble_eq_true rfl) (t_isLane) ?_
    refine am_if_ne (pc' := 19) (tgt := 23) dX7_cell_16 rfl rfl (fun c_16 => ?_) (fun c_16 => ?_)
    · simp only [am_z0, am_z1, ne_eq] at c_16
      obtain ⟨hS, eS⟩ := am_SAk hC (show 0 ≤ k by omega) (by omega)
      obtain ⟨i1, i2, i3, i4⟩ := id hS
      have hO := (hG k (by omega) (by omega)).1
      have u0 : am_u h 1 9 0 (3 + 2 * k) 0 = h (3 + 2 * k) 0 := am_u_n (by omega)
      have u1 : am_u h 1 9 0 (3 + 2 * k) 1 = h (3 + 2 * k) 1 := am_u_n (by omega)
      have hb := sh_asb (h (3 + 2 * k) 0) (h (3 + 2 * k) 1) l i 1
      refine am_aload_n (pc' := 24) dX7_cell_23 rfl rfl rfl ?_
      refine am_aload_n (pc' := 25) dX7_cell_24 rfl rfl rfl ?_
      refine am_getRk (ki := 0) (pc' := 28) (k := 0) (ci := 6) rfl dX7_cell_25 rfl fl_X7_13 (by first | assumption | exact ⟨by omega, by omega, rfl⟩) rfl (by assumption) (by omega) ?_
      refine am_iload_n (pc' := 29) dX7_cell_28 rfl rfl rfl ?_
      refine am_aaload (pc' := 30) dX7_cell_29 rfl (by first | assumption | exact ⟨by omega, by omega, rfl⟩) (by omega) (by omega) (by assumption) (by omega) ?_
      refine am_iload_n (pc' := 31) dX7_cell_30 rfl rfl rfl ?_
      refine am_iload_n (pc' := 32) dX7_cell_31 rfl rfl rfl ?_
      refine am_iconst (pc' := 33) dX7_cell_32 rfl rfl ?_
      refine am_callVp (pc' := 36) (as := [_, _, _]) (ci := 4)  rfl dX7_cell_33 rfl ok_X4_faultAs ml_X7_67 im_X4_faultAs se_X4_faultAs rfl (Nat.le_of_ble_eq_true rfl) rfl (Nat.le_of_ble_eq_true rfl) (by first | assumption | exact ⟨by omega, by omega, rfl⟩) (t_faultAs hS (by unfold am_SO; rw [u1]; exact hO)) ?_
      rw [u0, u1]
      refine am_putIk (ki := 9) (pc' := 39) (k := 9) (ci := 6) rfl dX7_cell_36 rfl fl_X7_56 (by first | assumption | exact ⟨by omega, by omega, rfl⟩) rfl (fun _ _ _ e => by cases e; rfl) ?_
      rw [am_uu]
      refine am_aload_n (pc' := 40) dX7_cell_39 rfl rfl rfl ?_
      refine am_getIk (ki := 9) (pc' := 43) (k := 9) (ci := 6) rfl dX7_cell_40 rfl fl_X7_56 (by first | assumption | exact ⟨by omega, by omega, rfl⟩) rfl ?_
      rw [am_u_s]
      refine am_if_eq (pc' := 46) (tgt := 52) dX7_cell_43 rfl rfl (fun c_43 => ?_) (fun c_43 => ?_)
      · refine am_aload_n (pc' := 53) dX7_cell_52 rfl rfl rfl ?_
        refine am_getRk (ki := 0) (pc' := 56) (k := 0) (ci := 6) rfl dX7_cell_53 rfl fl_X7_13 (by first | assumption | exact ⟨by omega, by omega, rfl⟩) rfl (by assumption) (by omega) ?_
        refine am_iload_n (pc' := 57) dX7_cell_56 rfl rfl rfl ?_
        refine am_aaload (pc' := 58) dX7_cell_57 rfl (by first | assumption | exact ⟨by omega, by omega, rfl⟩) (by omega) (by omega) (by assumption) (by omega) ?_
        refine am_iload_n (pc' := 59) dX7_cell_58 rfl rfl rfl ?_
        refine am_callVp (pc' := 62) (as := [_]) (ci := 4)  rfl dX7_cell_59 rfl ok_X4_at ml_X7_267 im_X4_at se_X4_at rfl (Nat.le_of_ble_eq_true rfl) rfl (Nat.le_of_ble_eq_true rfl) (by first | assumption | exact ⟨by omega, by omega, rfl⟩) (t_at hS (by unfold am_SO; rw [am_u_n (by omega)]; exact hO)) ?_
        refine am_i2l (pc' := 63) dX7_cell_62 rfl ?_
        refine am_retl dX7_cell_63 rfl ?_
        first | exact ⟨rfl, Or.inr ⟨by omega, rfl, by rw [if_neg c_43]⟩⟩ | exact ⟨rfl, Or.inr ⟨by omega, rfl, cl_cellv (by omega) c_43⟩⟩
      · refine am_ldc2 (pc' := 49) (x := -9223372036854775808) dX7_cell_46 rfl kl_X7_238 rfl rfl ?_
        refine am_goto (pc' := 63) dX7_cell_49 rfl ?_
        refine am_retl dX7_cell_63 rfl ?_
        first | exact ⟨rfl, Or.inr ⟨by omega, rfl, by rw [if_neg c_43]⟩⟩ | exact ⟨rfl, Or.inr ⟨by omega, rfl, cl_cellv (by omega) c_43⟩⟩
    · simp only [am_z0, am_z1, ne_eq] at c_16
      refine am_ldc2 (pc' := 22) (x := -9223372036854775808) dX7_cell_19 rfl kl_X7_238 rfl rfl ?_
      refine am_retl dX7_cell_22 rfl ?_
      exact ⟨rfl, Or.inl ⟨by omega, rfl, rfl⟩⟩
/-- the fault of a copy -/
def o_cf (a s b t i j n : Int) : Int := if a = -1 ∨ b = -1 then 1 else if a ≠ b then 2 else if (0 ≤ n ∧ 0 ≤ i ∧ i + n ≤ s) ∧ (0 ≤ n ∧ 0 ≤ j ∧ j + n ≤ t) then 0 else 3
theorem o_cfb (a s b t i j n : Int) : 0 ≤ o_cf a s b t i j n ∧ o_cf a s b t i j n ≤ 4 := by
  unfold o_cf
  split
  · omega
  · split
    · omega
    · split <;> omega
theorem o_cf0 {a s b t i j n : Int} (h : o_cf a s b t i j n = 0) : a ≠ -1 ∧ b ≠ -1 ∧ a = b ∧ 0 ≤ n ∧ 0 ≤ i ∧ i + n ≤ s ∧ 0 ≤ j ∧ j + n ≤ t := by
  unfold o_cf at h
  split at h
  · omega
  · split at h
    · omega
    · split at h <;> omega
theorem t_copy {ρ h : am_H} {k i o j n : Int} (hC : am_LC ρ) (hG : cl_S h) : am_CT mX7_copy 0 0 [am_R 1, am_I k, am_I i, am_I o, am_I j, am_I n] ρ h (fun r ρ' h' => ρ' = ρ ∧ ((¬ ((0 ≤ k ∧ k < 4) ∧ 0 ≤ o ∧ o < 4) ∧ r = some (am_I (-1)) ∧ h' = am_u h 1 9 0) ∨ (((0 ≤ k ∧ k < 4) ∧ 0 ≤ o ∧ o < 4) ∧ o_cf (h (3 + 2 * k) 0) (h (3 + 2 * k) 1) (h (3 + 2 * o) 0) (h (3 + 2 * o) 1) i j n ≠ 0 ∧ h' = am_u h 1 9 (o_cf (h (3 + 2 * k) 0) (h (3 + 2 * k) 1) (h (3 + 2 * o) 0) (h (3 + 2 * o) 1) i j n) ∧ r = some (am_I (-10 - o_cf (h (3 + 2 * k) 0) (h (3 + 2 * k) 1) (h (3 + 2 * o) 0) (h (3 + 2 * o) 1) i j n))) ∨
    (((0 ≤ k ∧ k < 4) ∧ 0 ≤ o ∧ o < 4) ∧ o_cf (h (3 + 2 * k) 0) (h (3 + 2 * k) 1) (h (3 + 2 * o) 0) (h (3 + 2 * o) 1) i j n = 0 ∧ h' = am_cpy (am_u h 1 9 0) (3 + 2 * k + 1) i (3 + 2 * o + 1) j n ∧ r = some (am_I n)))) := by
  have hn58 := hC.1
  have e1 := am_lc hC 1 0 2 (by decide)
  have e2 := am_lc hC 2 (-1) 4 (by decide)
  refine am_ct (ls := [some (am_R 1), some (am_I k), some (am_I i), some (am_I o), some (am_I j), some (am_I n), none, none]) ok_X7_copy rfl (fun _ => Nat.le_of_ble_eq_true rfl) (fun _ => rfl) (by intro v hv; simpa using hv) ?_
  refine am_aload_n (pc' := 1) dX7_copy_0 rfl rfl rfl ?_
  refine am_iconst (pc' := 2) dX7_copy_1 rfl rfl ?_
  refine am_putIk (ki := 9) (pc' := 5) (k := 9) (ci := 6) rfl dX7_copy_2 rfl fl_X7_56 (by first | assumption | exact ⟨by omega, by omega, rfl⟩) rfl (fun _ _ _ e => by cases e; rfl) ?_
  refine am_iload_n (pc' := 6) dX7_copy_5 rfl rfl rfl ?_
  refine am_callSp (pc' := 9) (as := [_])  rfl dX7_copy_6 rfl ok_X7_isSheet ml_X7_60 sm_X7_isSheet (Nat.le_of_ble_eq_true rfl) rfl (Nat.le_of_ble_eq_true rfl) (t_isSheet) ?_
  refine am_if_eq (pc' := 12) (tgt := 19) dX7_copy_9 rfl rfl (fun c_9 => ?_) (fun c_9 => ?_)
  · simp only [am_z0, am_z1, ne_eq] at c_9
    refine am_iconst (pc' := 20) dX7_copy_19 rfl rfl ?_
    refine am_reti dX7_copy_20 rfl ?_
    exact ⟨rfl, Or.inl ⟨by omega, rfl, rfl⟩⟩
  · simp only [am_z0, am_z1, ne_eq] at c_9
    refine am_iload_n (pc' := 13) dX7_copy_12 rfl rfl rfl ?_
    refine am_callSp (pc' := 16) (as := [_])  rfl dX7_copy_13 rfl ok_X7_isSheet ml_X7_60 sm_X7_isSheet (Nat.le_of_ble_eq_true rfl) rfl (Nat.le_of_ble_eq_true rfl) (t_isSheet) ?_
    refine am_if_ne (pc' := 19) (tgt := 21) dX7_copy_16 rfl rfl (fun c_16 => ?_) (fun c_16 => ?_)
    · simp only [am_z0, am_z1, ne_eq] at c_16
      obtain ⟨hS, eS⟩ := am_SAk hC (show 0 ≤ k by omega) (by omega)
      obtain ⟨i1, i2, i3, i4⟩ := id hS
      obtain ⟨hT, eT⟩ := am_SAk hC (show 0 ≤ o by omega) (by omega)
      have hO := (hG k (by omega) (by omega)).1
      have hOT := (hG o (by omega) (by omega)).1
      have u0 : am_u h 1 9 0 (3 + 2 * k) 0 = h (3 + 2 * k) 0 := am_u_n (by omega)
      have u1 : am_u h 1 9 0 (3 + 2 * k) 1 = h (3 + 2 * k) 1 := am_u_n (by omega)
      have v0 : am_u h 1 9 0 (3 + 2 * o) 0 = h (3 + 2 * o) 0 := am_u_n (by omega)
      have v1 : am_u h 1 9 0 (3 + 2 * o) 1 = h (3 + 2 * o) 1 := am_u_n (by omega)
      have hb := o_cfb (h (3 + 2 * k) 0) (h (3 + 2 * k) 1) (h (3 + 2 * o) 0) (h (3 + 2 * o) 1) i j n
      obtain ⟨j1, j2, j3, j4⟩ := id hT
      unfold am_SO at hO hOT
      refine am_aload_n (pc' := 22) dX7_copy_21 rfl rfl rfl ?_
      refine am_getRk (ki := 0) (pc' := 25) (k := 0) (ci := 6) rfl dX7_copy_22 rfl fl_X7_13 (by first | assumption | exact ⟨by omega, by omega, rfl⟩) rfl (by assumption) (by omega) ?_
      refine am_iload_n (pc' := 26) dX7_copy_25 rfl rfl rfl ?_
      refine am_aaload (pc' := 27) dX7_copy_26 rfl (by first | assumption | exact ⟨by omega, by omega, rfl⟩) (by omega) (by omega) (by assumption) (by omega) ?_
      refine am_astore (pc' := 29) (ls' := [_, _, _, _, _, _, _, _]) dX7_copy_27 rfl (Nat.le_of_ble_eq_true rfl) rfl rfl ?_
      refine am_aload_n (pc' := 30) dX7_copy_29 rfl rfl rfl ?_
      refine am_getRk (ki := 0) (pc' := 33) (k := 0) (ci := 6) rfl dX7_copy_30 rfl fl_X7_13 (by first | assumption | exact ⟨by omega, by omega, rfl⟩) rfl (by assumption) (by omega) ?_
      refine am_iload_n (pc' := 34) dX7_copy_33 rfl rfl rfl ?_
      refine am_aaload (pc' := 35) dX7_copy_34 rfl (by first | assumption | exact ⟨by omega, by omega, rfl⟩) (by omega) (by omega) (by assumption) (by omega) ?_
      refine am_astore (pc' := 37) (ls' := [_, _, _, _, _, _, _, _]) dX7_copy_35 rfl (Nat.le_of_ble_eq_true rfl) rfl rfl ?_
      refine am_aload_n (pc' := 38) dX7_copy_37 rfl rfl rfl ?_
      refine am_aload (pc' := 40) dX7_copy_38 rfl rfl ?_
      refine am_iload_n (pc' := 41) dX7_copy_40 rfl rfl rfl ?_
      refine am_aload (pc' := 43) dX7_copy_41 rfl rfl ?_
      refine am_iload (pc' := 45) dX7_copy_43 rfl rfl ?_
      refine am_iload (pc' := 47) dX7_copy_45 rfl rfl ?_
      refine am_callVp (pc' := 50) (as := [_, _, _, _]) (ci := 4)  rfl dX7_copy_47 rfl ok_X4_faultOfCopy ml_X7_270 im_X4_faultOfCopy se_X4_faultOfCopy rfl (Nat.le_of_ble_eq_true rfl) rfl (Nat.le_of_ble_eq_true rfl) (by first | assumption | exact ⟨by omega, by omega, rfl⟩) (t_faultOfCopy hS (by unfold am_SO; rw [u1]; exact hO) hT (by unfold am_SO; rw [v1]; exact hOT)) ?_
      rw [u0, u1, v0, v1]
      refine am_putIk (ki := 9) (pc' := 53) (k := 9) (ci := 6) rfl dX7_copy_50 rfl fl_X7_56 (by first | assumption | exact ⟨by omega, by omega, rfl⟩) rfl (fun _ _ _ e => by cases e; rfl) ?_
      rw [am_uu]
      refine am_aload_n (pc' := 54) dX7_copy_53 rfl rfl rfl ?_
      refine am_getIk (ki := 9) (pc' := 57) (k := 9) (ci := 6) rfl dX7_copy_54 rfl fl_X7_56 (by first | assumption | exact ⟨by omega, by omega, rfl⟩) rfl ?_
      rw [am_u_s]
      change am_WP _ _ _ _ _ [am_I (o_cf (h (3 + 2 * k) 0) (h (3 + 2 * k) 1) (h (3 + 2 * o) 0) (h (3 + 2 * o) 1) i j n)] _ (am_u h 1 9 (o_cf (h (3 + 2 * k) 0) (h (3 + 2 * k) 1) (h (3 + 2 * o) 0) (h (3 + 2 * o) 1) i j n)) _
      refine am_if_eq (pc' := 60) (tgt := 65) dX7_copy_57 rfl rfl (fun c_57 => ?_) (fun c_57 => ?_)
      · have hz := o_cf0 c_57
        refine am_aload (pc' := 67) dX7_copy_65 rfl rfl ?_
        refine am_getRk (ki := 2) (pc' := 70) (k := 2) (ci := 4) rfl dX7_copy_67 rfl fl_X7_274 (by first | assumption | exact ⟨by omega, by omega, rfl⟩) rfl (by assumption) (by omega) ?_
        refine am_iload_n (pc' := 71) dX7_copy_70 rfl rfl rfl ?_
        refine am_aload (pc' := 73) dX7_copy_71 rfl rfl ?_
        refine am_getRk (ki := 2) (pc' := 76) (k := 2) (ci := 4) rfl dX7_copy_73 rfl fl_X7_274 (by first | assumption | exact ⟨by omega, by omega, rfl⟩) rfl (by assumption) (by omega) ?_
        refine am_iload (pc' := 78) dX7_copy_76 rfl rfl ?_
        refine am_iload (pc' := 80) dX7_copy_78 rfl rfl ?_
        refine am_acopy (pc' := 83) dX7_copy_80 rfl ml_X7_277 nm_arraycopy sm_arraycopy in_System (by first | assumption | exact ⟨by omega, by omega, rfl⟩) (by first | assumption | exact ⟨by omega, by omega, rfl⟩) (by omega) (by omega) (by omega) (by omega) (by omega) (Nat.le_of_ble_eq_true rfl) rfl ?_
        refine am_iload (pc' := 85) dX7_copy_83 rfl rfl ?_
        refine am_reti dX7_copy_85 rfl ?_
        exact ⟨rfl, Or.inr (Or.inr ⟨by omega, c_57, by rw [c_57], rfl⟩)⟩
      · refine am_aload_n (pc' := 61) dX7_copy_60 rfl rfl rfl ?_
        refine am_callVp (pc' := 64) (as := []) (ci := 6)  rfl dX7_copy_61 rfl ok_X7_answerOfFault ml_X7_71 im_X7_answerOfFault se_X7_answerOfFault rfl (Nat.le_of_ble_eq_true rfl) rfl (Nat.le_of_ble_eq_true rfl) (by first | assumption | exact ⟨by omega, by omega, rfl⟩) (t_answerOfFault hC (by rw [am_u_s]; exact hb)) ?_
        refine am_reti dX7_copy_64 rfl ?_
        exact ⟨rfl, Or.inr (Or.inl ⟨by omega, c_57, rfl, by rw [am_u_s]⟩)⟩
    · simp only [am_z0, am_z1, ne_eq] at c_16
      refine am_iconst (pc' := 20) dX7_copy_19 rfl rfl ?_
      refine am_reti dX7_copy_20 rfl ?_
      exact ⟨rfl, Or.inl ⟨by omega, rfl, rfl⟩⟩
