/-! the model: sheet, reading -/
theorem t8_sheet_l {ρ h : am_H} {k l n : Int} {Q : am_Q} (hM : am_LM ρ) (hk : 0 ≤ k ∧ k < 4) (hn : 0 ≤ n ∧ n ≤ 60) (hq : ∀ h1, am_fr [56] h h1 → (∀ j, h1 56 j = if 60 * k ≤ j ∧ j < 60 * k + n then 0 else h 56 j) → Q (some (am_I 1)) ρ (am_u h1 38 0 0)) :
    ∀ (m : Nat) (i : Int) (h1 : am_H), (n - i).toNat < m → 0 ≤ i → i ≤ n → am_fr [56] h h1 → (∀ j, h1 56 j = if 60 * k ≤ j ∧ j < 60 * k + i then 0 else h 56 j) → am_WP mX8_sheet 0 0 65 [some (am_R 38), some (am_I k), some (am_I l), some (am_I n), some (am_I i)] [] ρ h1 Q := by
  have hn58 := hM.1
  have e3 := am_lm hM 38 29 56 (by decide)
  have l3 := am_lm hM 56 (-1) 240 (by decide)
  intro m
  induction m with
  | zero => intro i h1 hm; omega
  | succ m ih =>
    intro i h1 hm h0 h9 hf hr
    refine am_iload (pc' := 67) dX8_sheet_65 rfl rfl ?_
    refine am_iload_n (pc' := 68) dX8_sheet_67 rfl rfl rfl ?_
    refine am_icmp_ge (pc' := 71) (tgt := 90) dX8_sheet_68 rfl rfl (fun c_68 => ?_) (fun c_68 => ?_)
    · refine am_aload_n (pc' := 91) dX8_sheet_90 rfl rfl rfl ?_
      refine am_iconst (pc' := 92) dX8_sheet_91 rfl rfl ?_
      refine am_callV0 (pc' := 95) (as := [_]) (ci := 7)  rfl dX8_sheet_92 rfl ok_X8_refused ml_X8_117 im_X8_refused se_X8_refused rfl (Nat.le_of_ble_eq_true rfl) rfl (Nat.le_of_ble_eq_true rfl) (by first | assumption | exact ⟨by omega, by omega, rfl⟩) (t8_refused hM) (fun r_92 ρ_92 h_92 q_92 g_92 e_92 => ?_)
      obtain ⟨rfl, rfl, rfl⟩ := q_92
      refine am_reti dX8_sheet_95 rfl ?_
      exact hq h1 hf (fun j => by rw [hr j, show i = n by omega])
    · refine am_aload_n (pc' := 72) dX8_sheet_71 rfl rfl rfl ?_
      refine am_getRk (ki := 29) (pc' := 75) (k := 29) (ci := 7) rfl dX8_sheet_72 rfl fl_X8_61 (by first | assumption | exact ⟨by omega, by omega, rfl⟩) rfl (by assumption) (by omega) ?_
      refine am_bipush (pc' := 77) dX8_sheet_75 rfl rfl (by decide) ?_
      refine am_iload_n (pc' := 78) dX8_sheet_77 rfl rfl rfl ?_
      refine am_imul (pc' := 79) dX8_sheet_78 rfl ⟨by omega, by omega⟩ ?_
      refine am_iload (pc' := 81) dX8_sheet_79 rfl rfl ?_
      refine am_iadd (pc' := 82) dX8_sheet_81 rfl ⟨by omega, by omega⟩ ?_
      refine am_iconst (pc' := 83) dX8_sheet_82 rfl rfl ?_
      refine am_iastore (pc' := 84) dX8_sheet_83 rfl (by first | assumption | exact ⟨by omega, by omega, rfl⟩) (by omega) (by omega) ?_
      refine am_iinc (pc' := 87) (ls' := [_, _, _, _, _]) dX8_sheet_84 rfl rfl ⟨by omega, by omega⟩ (Nat.le_of_ble_eq_true rfl) rfl rfl ?_
      refine am_goto (pc' := 65) dX8_sheet_87 rfl ?_
      refine ih _ _ (by omega) (by omega) (by omega) (am_fr_u hf (by simp <;> omega)) (fun j => ?_)
      rw [am_u_if]
      by_cases z : j = 60 * k + i
      · rw [if_pos z, if_pos (by omega)]
      · rw [if_neg z, hr j]
        by_cases y : 60 * k ≤ j ∧ j < 60 * k + i
        · rw [if_pos y, if_pos (by omega)]
        · rw [if_neg y, if_neg (by omega)]
theorem t8_sheet {ρ h : am_H} {k l n : Int} (hM : am_LM ρ) : am_CT mX8_sheet 0 0 [am_R 38, am_I k, am_I l, am_I n] ρ h (fun r ρ' h' => ρ' = ρ ∧ ((¬ (0 ≤ k ∧ k < 4) ∧ r = some (am_I (-1)) ∧ h' = am_u h 38 0 0) ∨ ((0 ≤ k ∧ k < 4) ∧ ¬ ((0 ≤ l ∧ l < 3) ∧ n ≤ 60) ∧ r = some (am_I (-2)) ∧ h' = am_u h 38 0 0) ∨ ((0 ≤ k ∧ k < 4) ∧ ((0 ≤ l ∧ l < 3) ∧ n ≤ 60) ∧ n < 0 ∧ r = some (am_I (-14)) ∧ h' = am_u h 38 0 4) ∨
    ((0 ≤ k ∧ k < 4) ∧ ((0 ≤ l ∧ l < 3) ∧ n ≤ 60) ∧ 0 ≤ n ∧ r = some (am_I 1) ∧ ∃ h1, h' = am_u h1 38 0 0 ∧ am_fr [56] (am_u (am_u h 54 k n) 55 k l) h1 ∧ ∀ j, h1 56 j = if 60 * k ≤ j ∧ j < 60 * k + n then 0 else h 56 j))) := by
  have hn58 := hM.1
  have e1 := am_lm hM 38 27 54 (by decide)
  have l1 := am_lm hM 54 (-1) 4 (by decide)
  have e2 := am_lm hM 38 28 55 (by decide)
  have l2 := am_lm hM 55 (-1) 4 (by decide)
  refine am_ct (ls := [some (am_R 38), some (am_I k), some (am_I l), some (am_I n), none]) ok_X8_sheet rfl (fun _ => Nat.le_of_ble_eq_true rfl) (fun _ => rfl) (by intro v hv; simpa using hv) ?_
  refine am_iload_n (pc' := 1) dX8_sheet_0 rfl rfl rfl ?_
  refine am_callSp (pc' := 4) (as := [_])  rfl dX8_sheet_1 rfl ok_X8_noSheet ml_X8_113 sm_X8_noSheet (Nat.le_of_ble_eq_true rfl) rfl (Nat.le_of_ble_eq_true rfl) (t8_noSheet) ?_
  refine am_if_eq (pc' := 7) (tgt := 13) dX8_sheet_4 rfl rfl (fun c_4 => ?_) (fun c_4 => ?_)
  · simp only [am_z0, am_z1, ne_eq] at c_4
    refine am_iload_n (pc' := 14) dX8_sheet_13 rfl rfl rfl ?_
    refine am_i2l (pc' := 15) dX8_sheet_14 rfl ?_
    refine am_lconst0 (pc' := 16) dX8_sheet_15 rfl ?_
    refine am_ldc2 (pc' := 19) (x := 2) dX8_sheet_16 rfl kl_X8_97 rfl rfl ?_
    refine am_callSp (pc' := 22) (as := [_, _, _])  rfl dX8_sheet_19 rfl ok_X8_in ml_X8_80 sm_X8_in (Nat.le_of_ble_eq_true rfl) rfl (Nat.le_of_ble_eq_true rfl) (t8_in) ?_
    refine am_if_eq (pc' := 25) (tgt := 31) dX8_sheet_22 rfl rfl (fun c_22 => ?_) (fun c_22 => ?_)
    · simp only [am_z0, am_z1, ne_eq] at c_22
      refine am_aload_n (pc' := 32) dX8_sheet_31 rfl rfl rfl ?_
      refine am_bipush (pc' := 34) dX8_sheet_32 rfl rfl (by decide) ?_
      refine am_callV0 (pc' := 37) (as := [_]) (ci := 7)  rfl dX8_sheet_34 rfl ok_X8_refused ml_X8_117 im_X8_refused se_X8_refused rfl (Nat.le_of_ble_eq_true rfl) rfl (Nat.le_of_ble_eq_true rfl) (by first | assumption | exact ⟨by omega, by omega, rfl⟩) (t8_refused hM) (fun r_34 ρ_34 h_34 q_34 g_34 e_34 => ?_)
      obtain ⟨rfl, rfl, rfl⟩ := q_34
      refine am_reti dX8_sheet_37 rfl ?_
      exact ⟨rfl, Or.inr (Or.inl ⟨by omega, by omega, rfl, rfl⟩)⟩
    · simp only [am_z0, am_z1, ne_eq] at c_22
      refine am_iload_n (pc' := 26) dX8_sheet_25 rfl rfl rfl ?_
      refine am_bipush (pc' := 28) dX8_sheet_26 rfl rfl (by decide) ?_
      refine am_icmp_le (pc' := 31) (tgt := 38) dX8_sheet_28 rfl rfl (fun c_28 => ?_) (fun c_28 => ?_)
      · refine am_iload_n (pc' := 39) dX8_sheet_38 rfl rfl rfl ?_
        refine am_if_ge (pc' := 42) (tgt := 48) dX8_sheet_39 rfl rfl (fun c_39 => ?_) (fun c_39 => ?_)
        · refine am_aload_n (pc' := 49) dX8_sheet_48 rfl rfl rfl ?_
          refine am_getRk (ki := 27) (pc' := 52) (k := 27) (ci := 7) rfl dX8_sheet_49 rfl fl_X8_55 (by first | assumption | exact ⟨by omega, by omega, rfl⟩) rfl (by assumption) (by omega) ?_
          refine am_iload_n (pc' := 53) dX8_sheet_52 rfl rfl rfl ?_
          refine am_iload_n (pc' := 54) dX8_sheet_53 rfl rfl rfl ?_
          refine am_iastore (pc' := 55) dX8_sheet_54 rfl (by first | assumption | exact ⟨by omega, by omega, rfl⟩) (by omega) (by omega) ?_
          refine am_aload_n (pc' := 56) dX8_sheet_55 rfl rfl rfl ?_
          refine am_getRk (ki := 28) (pc' := 59) (k := 28) (ci := 7) rfl dX8_sheet_56 rfl fl_X8_58 (by first | assumption | exact ⟨by omega, by omega, rfl⟩) rfl (by assumption) (by omega) ?_
          refine am_iload_n (pc' := 60) dX8_sheet_59 rfl rfl rfl ?_
          refine am_iload_n (pc' := 61) dX8_sheet_60 rfl rfl rfl ?_
          refine am_iastore (pc' := 62) dX8_sheet_61 rfl (by first | assumption | exact ⟨by omega, by omega, rfl⟩) (by omega) (by omega) ?_
          refine am_iconst (pc' := 63) dX8_sheet_62 rfl rfl ?_
          refine am_istore (pc' := 65) (ls' := [_, _, _, _, _]) dX8_sheet_63 rfl (Nat.le_of_ble_eq_true rfl) rfl rfl ?_
          refine t8_sheet_l hM (by omega) (by omega) (fun h1 a b => ⟨rfl, Or.inr (Or.inr (Or.inr ⟨by omega, by omega, by omega, rfl, h1, rfl, a, fun j => ?_⟩))⟩) (n.toNat + 1) 0 _ (by omega) (by omega) (by omega) am_fr_refl (fun j => by rw [if_neg (by omega)])
          rw [b j, am_u_n (by omega), am_u_n (by omega)]
        · refine am_aload_n (pc' := 43) dX8_sheet_42 rfl rfl rfl ?_
          refine am_iconst (pc' := 44) dX8_sheet_43 rfl rfl ?_
          refine am_callV0 (pc' := 47) (as := [_]) (ci := 7)  rfl dX8_sheet_44 rfl ok_X8_failed ml_X8_105 im_X8_failed se_X8_failed rfl (Nat.le_of_ble_eq_true rfl) rfl (Nat.le_of_ble_eq_true rfl) (by first | assumption | exact ⟨by omega, by omega, rfl⟩) (t8_failed hM (by omega)) (fun r_44 ρ_44 h_44 q_44 g_44 e_44 => ?_)
          obtain ⟨rfl, rfl, rfl⟩ := q_44
          refine am_reti dX8_sheet_47 rfl ?_
          exact ⟨rfl, Or.inr (Or.inr (Or.inl ⟨by omega, by omega, by omega, rfl, rfl⟩))⟩
      · refine am_aload_n (pc' := 32) dX8_sheet_31 rfl rfl rfl ?_
        refine am_bipush (pc' := 34) dX8_sheet_32 rfl rfl (by decide) ?_
        refine am_callV0 (pc' := 37) (as := [_]) (ci := 7)  rfl dX8_sheet_34 rfl ok_X8_refused ml_X8_117 im_X8_refused se_X8_refused rfl (Nat.le_of_ble_eq_true rfl) rfl (Nat.le_of_ble_eq_true rfl) (by first | assumption | exact ⟨by omega, by omega, rfl⟩) (t8_refused hM) (fun r_34 ρ_34 h_34 q_34 g_34 e_34 => ?_)
        obtain ⟨rfl, rfl, rfl⟩ := q_34
        refine am_reti dX8_sheet_37 rfl ?_
        exact ⟨rfl, Or.inr (Or.inl ⟨by omega, by omega, rfl, rfl⟩)⟩
  · simp only [am_z0, am_z1, ne_eq] at c_4
    refine am_aload_n (pc' := 8) dX8_sheet_7 rfl rfl rfl ?_
    refine am_iconst (pc' := 9) dX8_sheet_8 rfl rfl ?_
    refine am_callV0 (pc' := 12) (as := [_]) (ci := 7)  rfl dX8_sheet_9 rfl ok_X8_refused ml_X8_117 im_X8_refused se_X8_refused rfl (Nat.le_of_ble_eq_true rfl) rfl (Nat.le_of_ble_eq_true rfl) (by first | assumption | exact ⟨by omega, by omega, rfl⟩) (t8_refused hM) (fun r_9 ρ_9 h_9 q_9 g_9 e_9 => ?_)
    obtain ⟨rfl, rfl, rfl⟩ := q_9
    refine am_reti dX8_sheet_12 rfl ?_
    exact ⟨rfl, Or.inl ⟨by omega, rfl, rfl⟩⟩
theorem t8_reading {ρ h : am_H} {t p v : Int} (hM : am_LM ρ) (hR : md_R h) (hO : 0 ≤ h 38 23 ∧ h 38 23 ≤ 8) : am_CT mX8_reading 0 0 [am_R 38, am_I t, am_I p, am_I v] ρ h (fun r ρ' h' => ρ' = ρ ∧ ((¬ (0 ≤ p ∧ p < h 38 1) ∧ r = some (am_I (-1)) ∧ h' = h) ∨ ((0 ≤ p ∧ p < h 38 1) ∧ ¬ ((0 ≤ t ∧ t ≤ 99) ∧ 0 ≤ v ∧ v ≤ 5) ∧ r = some (am_I (-2)) ∧ h' = h) ∨ ((0 ≤ p ∧ p < h 38 1) ∧ ((0 ≤ t ∧ t ≤ 99) ∧ 0 ≤ v ∧ v ≤ 5) ∧
    ((h 38 23 = 8 ∧ r = some (am_I (-4)) ∧ h' = h) ∨ (h 38 23 < 8 ∧ r = some (am_I (h 38 23)) ∧ h' = am_u (am_u (am_u (am_u h 51 (h 38 23) t) 52 (h 38 23) p) 53 (h 38 23) v) 38 23 (h 38 23 + 1)))))) := by
  have hn58 := hM.1
  have hP5 := (md_P5 hR).1
  have e2 := am_lm hM 38 24 51 (by decide)
  have e3 := am_lm hM 38 25 52 (by decide)
  have e4 := am_lm hM 38 26 53 (by decide)
  have l2 := am_lm hM 51 (-1) 8 (by decide)
  have l3 := am_lm hM 52 (-1) 8 (by decide)
  have l4 := am_lm hM 53 (-1) 8 (by decide)
  refine am_ct (ls := [some (am_R 38), some (am_I t), some (am_I p), some (am_I v)]) ok_X8_reading rfl (fun _ => Nat.le_of_ble_eq_true rfl) (fun _ => rfl) (by intro v hv; simpa using hv) ?_
  refine am_aload_n (pc' := 1) dX8_reading_0 rfl rfl rfl ?_
  refine am_iload_n (pc' := 2) dX8_reading_1 rfl rfl rfl ?_
  refine am_callVp (pc' := 5) (as := [_]) (ci := 7)  rfl dX8_reading_2 rfl ok_X8_noPlace ml_X8_149 im_X8_noPlace se_X8_noPlace rfl (Nat.le_of_ble_eq_true rfl) rfl (Nat.le_of_ble_eq_true rfl) (by first | assumption | exact ⟨by omega, by omega, rfl⟩) (t8_noPlace hM hP5) ?_
  refine am_if_eq (pc' := 8) (tgt := 10) dX8_reading_5 rfl rfl (fun c_5 => ?_) (fun c_5 => ?_)
  · simp only [am_z0, am_z1, ne_eq] at c_5
    refine am_iload_n (pc' := 11) dX8_reading_10 rfl rfl rfl ?_
    refine am_i2l (pc' := 12) dX8_reading_11 rfl ?_
    refine am_lconst0 (pc' := 13) dX8_reading_12 rfl ?_
    refine am_ldc2 (pc' := 16) (x := 99) dX8_reading_13 rfl kl_X8_158 rfl rfl ?_
    refine am_callSp (pc' := 19) (as := [_, _, _])  rfl dX8_reading_16 rfl ok_X8_in ml_X8_80 sm_X8_in (Nat.le_of_ble_eq_true rfl) rfl (Nat.le_of_ble_eq_true rfl) (t8_in) ?_
    refine am_if_eq (pc' := 22) (tgt := 34) dX8_reading_19 rfl rfl (fun c_19 => ?_) (fun c_19 => ?_)
    · simp only [am_z0, am_z1, ne_eq] at c_19
      refine am_bipush (pc' := 36) dX8_reading_34 rfl rfl (by decide) ?_
      refine am_reti dX8_reading_36 rfl ?_
      exact ⟨rfl, Or.inr (Or.inl ⟨by omega, by omega, rfl, rfl⟩)⟩
    · simp only [am_z0, am_z1, ne_eq] at c_19
      refine am_iload_n (pc' := 23) dX8_reading_22 rfl rfl rfl ?_
      refine am_i2l (pc' := 24) dX8_reading_23 rfl ?_
      refine am_lconst0 (pc' := 25) dX8_reading_24 rfl ?_
      refine am_ldc2 (pc' := 28) (x := 5) dX8_reading_25 rfl kl_X8_226 rfl rfl ?_
      refine am_callSp (pc' := 31) (as := [_, _, _])  rfl dX8_reading_28 rfl ok_X8_in ml_X8_80 sm_X8_in (Nat.le_of_ble_eq_true rfl) rfl (Nat.le_of_ble_eq_true rfl) (t8_in) ?_
      refine am_if_ne (pc' := 34) (tgt := 37) dX8_reading_31 rfl rfl (fun c_31 => ?_) (fun c_31 => ?_)
      · simp only [am_z0, am_z1, ne_eq] at c_31
        refine am_aload_n (pc' := 38) dX8_reading_37 rfl rfl rfl ?_
        refine am_getIk (ki := 23) (pc' := 41) (k := 23) (ci := 7) rfl dX8_reading_38 rfl fl_X8_133 (by first | assumption | exact ⟨by omega, by omega, rfl⟩) rfl ?_
        refine am_bipush (pc' := 43) dX8_reading_41 rfl rfl (by decide) ?_
        refine am_icmp_ne (pc' := 46) (tgt := 49) dX8_reading_43 rfl rfl (fun c_43 => ?_) (fun c_43 => ?_)
        · refine am_aload_n (pc' := 50) dX8_reading_49 rfl rfl rfl ?_
          refine am_getRk (ki := 24) (pc' := 53) (k := 24) (ci := 7) rfl dX8_reading_50 rfl fl_X8_46 (by first | assumption | exact ⟨by omega, by omega, rfl⟩) rfl (by assumption) (by omega) ?_
          refine am_aload_n (pc' := 54) dX8_reading_53 rfl rfl rfl ?_
          refine am_getIk (ki := 23) (pc' := 57) (k := 23) (ci := 7) rfl dX8_reading_54 rfl fl_X8_133 (by first | assumption | exact ⟨by omega, by omega, rfl⟩) rfl ?_
          refine am_iload_n (pc' := 58) dX8_reading_57 rfl rfl rfl ?_
          refine am_iastore (pc' := 59) dX8_reading_58 rfl (by first | assumption | exact ⟨by omega, by omega, rfl⟩) (by omega) (by omega) ?_
          refine am_aload_n (pc' := 60) dX8_reading_59 rfl rfl rfl ?_
          refine am_getRk (ki := 25) (pc' := 63) (k := 25) (ci := 7) rfl dX8_reading_60 rfl fl_X8_49 (by first | assumption | exact ⟨by omega, by omega, rfl⟩) rfl (by assumption) (by omega) ?_
          refine am_aload_n (pc' := 64) dX8_reading_63 rfl rfl rfl ?_
          refine am_getIk (ki := 23) (pc' := 67) (k := 23) (ci := 7) rfl dX8_reading_64 rfl fl_X8_133 (by first | assumption | exact ⟨by omega, by omega, rfl⟩) rfl ?_
          rw [am_u_n (by omega)]
          refine am_iload_n (pc' := 68) dX8_reading_67 rfl rfl rfl ?_
          refine am_iastore (pc' := 69) dX8_reading_68 rfl (by first | assumption | exact ⟨by omega, by omega, rfl⟩) (by omega) (by omega) ?_
          refine am_aload_n (pc' := 70) dX8_reading_69 rfl rfl rfl ?_
          refine am_getRk (ki := 26) (pc' := 73) (k := 26) (ci := 7) rfl dX8_reading_70 rfl fl_X8_52 (by first | assumption | exact ⟨by omega, by omega, rfl⟩) rfl (by assumption) (by omega) ?_
          refine am_aload_n (pc' := 74) dX8_reading_73 rfl rfl rfl ?_
          refine am_getIk (ki := 23) (pc' := 77) (k := 23) (ci := 7) rfl dX8_reading_74 rfl fl_X8_133 (by first | assumption | exact ⟨by omega, by omega, rfl⟩) rfl ?_
          rw [am_u_n (by omega), am_u_n (by omega)]
          refine am_iload_n (pc' := 78) dX8_reading_77 rfl rfl rfl ?_
          refine am_iastore (pc' := 79) dX8_reading_78 rfl (by first | assumption | exact ⟨by omega, by omega, rfl⟩) (by omega) (by omega) ?_
          refine am_aload_n (pc' := 80) dX8_reading_79 rfl rfl rfl ?_
          first | refine am_dupR (pc' := 81) dX8_reading_80 rfl ?_ | refine am_dupI (pc' := 81) dX8_reading_80 rfl ?_
          refine am_getIk (ki := 23) (pc' := 84) (k := 23) (ci := 7) rfl dX8_reading_81 rfl fl_X8_133 (by first | assumption | exact ⟨by omega, by omega, rfl⟩) rfl ?_
          rw [am_u_n (by omega), am_u_n (by omega), am_u_n (by omega)]
          refine am_iconst (pc' := 85) dX8_reading_84 rfl rfl ?_
          refine am_iadd (pc' := 86) dX8_reading_85 rfl ⟨by omega, by omega⟩ ?_
          refine am_putIk (ki := 23) (pc' := 89) (k := 23) (ci := 7) rfl dX8_reading_86 rfl fl_X8_133 (by first | assumption | exact ⟨by omega, by omega, rfl⟩) rfl (fun _ _ _ e => by cases e; rfl) ?_
          refine am_aload_n (pc' := 90) dX8_reading_89 rfl rfl rfl ?_
          refine am_getIk (ki := 23) (pc' := 93) (k := 23) (ci := 7) rfl dX8_reading_90 rfl fl_X8_133 (by first | assumption | exact ⟨by omega, by omega, rfl⟩) rfl ?_
          rw [am_u_s]
          refine am_iconst (pc' := 94) dX8_reading_93 rfl rfl ?_
          refine am_isub (pc' := 95) dX8_reading_94 rfl ⟨by omega, by omega⟩ ?_
          refine am_reti dX8_reading_95 rfl ?_
          exact ⟨rfl, Or.inr (Or.inr ⟨by omega, by omega, Or.inr ⟨by omega, by rw [show h 38 23 + 1 - 1 = h 38 23 by omega], rfl⟩⟩)⟩
        · refine am_bipush (pc' := 48) dX8_reading_46 rfl rfl (by decide) ?_
          refine am_reti dX8_reading_48 rfl ?_
          exact ⟨rfl, Or.inr (Or.inr ⟨by omega, by omega, Or.inl ⟨by omega, rfl, rfl⟩⟩)⟩
      · simp only [am_z0, am_z1, ne_eq] at c_31
        refine am_bipush (pc' := 36) dX8_reading_34 rfl rfl (by decide) ?_
        refine am_reti dX8_reading_36 rfl ?_
        exact ⟨rfl, Or.inr (Or.inl ⟨by omega, by omega, rfl, rfl⟩)⟩
  · simp only [am_z0, am_z1, ne_eq] at c_5
    refine am_iconst (pc' := 9) dX8_reading_8 rfl rfl ?_
    refine am_reti dX8_reading_9 rfl ?_
    exact ⟨rfl, Or.inl ⟨by omega, rfl, rfl⟩⟩
