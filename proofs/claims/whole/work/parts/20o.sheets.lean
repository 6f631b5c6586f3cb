/-! the model: sheets; 54 sheetSize, 55 sheetLane, 56 sheet, 57 hands -/
def md_ln (h : am_H) (k : Int) : Int := if h 54 k < 0 then -1 else h 55 k
def md_S (h : am_H) : Prop := ∀ k, 0 ≤ k → k < 4 → (-1 ≤ h 54 k ∧ h 54 k ≤ 60) ∧ 0 ≤ h 55 k ∧ h 55 k ≤ 2
theorem t8_isBeyond {ρ h : am_H} {i n s : Int} (hi : -2147483648 ≤ i ∧ i ≤ 2147483647) (hn : -4294967296 ≤ n ∧ n ≤ 4294967296) : am_CT mX8_isBeyond 0 0 [am_I i, am_L n, am_I s] ρ h (am_P (am_I (if ¬ (0 ≤ n ∧ 0 ≤ i ∧ i + n ≤ s) then 1 else 0)) ρ h) := by
  refine am_ct (ls := [some (am_I i), some (am_L n), none, some (am_I s)]) ok_X8_isBeyond rfl (fun _ => Nat.le_of_ble_eq_true rfl) (fun _ => rfl) (by intro v hv; simpa using hv) ?_
  refine am_iload_n (pc' := 1) dX8_isBeyond_0 rfl rfl rfl ?_
  refine am_if_lt (pc' := 4) (tgt := 20) dX8_isBeyond_1 rfl rfl (fun c_1 => ?_) (fun c_1 => ?_)
  · refine am_iconst (pc' := 21) dX8_isBeyond_20 rfl rfl ?_
    refine am_goto (pc' := 25) dX8_isBeyond_21 rfl ?_
    refine am_retz dX8_isBeyond_25 rfl (by first | exact Or.inl rfl | exact Or.inr rfl | omega) ?_
    exact ⟨by first | rw [if_pos (by omega)] | rw [if_neg (by omega)], rfl, rfl⟩
  · refine am_lload_n (pc' := 5) dX8_isBeyond_4 rfl rfl rfl ?_
    refine am_lconst0 (pc' := 6) dX8_isBeyond_5 rfl ?_
    refine am_lcmp_lt (pc1 := 7) (pc' := 10) (tgt := 20) dX8_isBeyond_6 rfl dX8_isBeyond_7 rfl rfl (fun c_6 => ?_) (fun c_6 => ?_)
    · refine am_iconst (pc' := 21) dX8_isBeyond_20 rfl rfl ?_
      refine am_goto (pc' := 25) dX8_isBeyond_21 rfl ?_
      refine am_retz dX8_isBeyond_25 rfl (by first | exact Or.inl rfl | exact Or.inr rfl | omega) ?_
      exact ⟨by first | rw [if_pos (by omega)] | rw [if_neg (by omega)], rfl, rfl⟩
    · refine am_iload_n (pc' := 11) dX8_isBeyond_10 rfl rfl rfl ?_
      refine am_i2l (pc' := 12) dX8_isBeyond_11 rfl ?_
      refine am_lload_n (pc' := 13) dX8_isBeyond_12 rfl rfl rfl ?_
      refine am_ladd (pc' := 14) dX8_isBeyond_13 rfl ⟨by omega, by omega⟩ ?_
      refine am_iload_n (pc' := 15) dX8_isBeyond_14 rfl rfl rfl ?_
      refine am_i2l (pc' := 16) dX8_isBeyond_15 rfl ?_
      refine am_lcmp_le (pc1 := 17) (pc' := 20) (tgt := 24) dX8_isBeyond_16 rfl dX8_isBeyond_17 rfl rfl (fun c_16 => ?_) (fun c_16 => ?_)
      · refine am_iconst (pc' := 25) dX8_isBeyond_24 rfl rfl ?_
        refine am_retz dX8_isBeyond_25 rfl (by first | exact Or.inl rfl | exact Or.inr rfl | omega) ?_
        exact ⟨by first | rw [if_pos (by omega)] | rw [if_neg (by omega)], rfl, rfl⟩
      · refine am_iconst (pc' := 21) dX8_isBeyond_20 rfl rfl ?_
        refine am_goto (pc' := 25) dX8_isBeyond_21 rfl ?_
        refine am_retz dX8_isBeyond_25 rfl (by first | exact Or.inl rfl | exact Or.inr rfl | omega) ?_
        exact ⟨by first | rw [if_pos (by omega)] | rw [if_neg (by omega)], rfl, rfl⟩
theorem t8_noCell {ρ h : am_H} {k i : Int} (hM : am_LM ρ) (hS : md_S h) (hk : 0 ≤ k ∧ k < 4) : am_CT mX8_noCell 0 0 [am_R 38, am_I k, am_I i] ρ h (am_P (am_I (sh_of (md_ln h k) (h 54 k) i 1)) ρ h) := by
  have hn58 := hM.1
  have e1 := am_lm hM 38 27 54 (by decide)
  have l1 := am_lm hM 54 (-1) 4 (by decide)
  have hs := hS k hk.1 hk.2
  refine am_ct (ls := [some (am_R 38), some (am_I k), some (am_I i)]) ok_X8_noCell rfl (fun _ => Nat.le_of_ble_eq_true rfl) (fun _ => rfl) (by intro v hv; simpa using hv) ?_
  unfold sh_of md_ln
  refine am_aload_n (pc' := 1) dX8_noCell_0 rfl rfl rfl ?_
  refine am_getRk (ki := 27) (pc' := 4) (k := 27) (ci := 7) rfl dX8_noCell_1 rfl fl_X8_55 (by first | assumption | exact ⟨by omega, by omega, rfl⟩) rfl (by assumption) (by omega) ?_
  refine am_iload_n (pc' := 5) dX8_noCell_4 rfl rfl rfl ?_
  refine am_iaload (pc' := 6) dX8_noCell_5 rfl (by first | assumption | exact ⟨by omega, by omega, rfl⟩) (by omega) (by omega) ?_
  refine am_if_ge (pc' := 9) (tgt := 13) dX8_noCell_6 rfl rfl (fun c_6 => ?_) (fun c_6 => ?_)
  · refine am_iload_n (pc' := 14) dX8_noCell_13 rfl rfl rfl ?_
    refine am_i2l (pc' := 15) dX8_noCell_14 rfl ?_
    refine am_lconst0 (pc' := 16) dX8_noCell_15 rfl ?_
    refine am_aload_n (pc' := 17) dX8_noCell_16 rfl rfl rfl ?_
    refine am_getRk (ki := 27) (pc' := 20) (k := 27) (ci := 7) rfl dX8_noCell_17 rfl fl_X8_55 (by first | assumption | exact ⟨by omega, by omega, rfl⟩) rfl (by assumption) (by omega) ?_
    refine am_iload_n (pc' := 21) dX8_noCell_20 rfl rfl rfl ?_
    refine am_iaload (pc' := 22) dX8_noCell_21 rfl (by first | assumption | exact ⟨by omega, by omega, rfl⟩) (by omega) (by omega) ?_
    refine am_i2l (pc' := 23) dX8_noCell_22 rfl ?_
    refine am_lconst1 (pc' := 24) dX8_noCell_23 rfl ?_
    refine am_lsub (pc' := 25) dX8_noCell_24 rfl ⟨by omega, by omega⟩ ?_
    refine am_callSp (pc' := 28) (as := [_, _, _])  rfl dX8_noCell_25 rfl ok_X8_in ml_X8_80 sm_X8_in (Nat.le_of_ble_eq_true rfl) rfl (Nat.le_of_ble_eq_true rfl) (t8_in) ?_
    refine am_if_eq (pc' := 31) (tgt := 35) dX8_noCell_28 rfl rfl (fun c_28 => ?_) (fun c_28 => ?_)
    · simp only [am_z0, am_z1, ne_eq] at c_28
      refine am_iconst (pc' := 36) dX8_noCell_35 rfl rfl ?_
      refine am_reti dX8_noCell_36 rfl ?_
      first | exact ⟨by rw [if_pos (by rw [if_pos (by omega)])], rfl, rfl⟩ | exact ⟨by rw [if_neg (by rw [if_neg (by omega)]; omega), if_neg (by omega), if_pos (by omega)], rfl, rfl⟩ | exact ⟨by rw [if_neg (by rw [if_neg (by omega)]; omega), if_neg (by omega), if_neg (by omega)], rfl, rfl⟩ | fail
    · simp only [am_z0, am_z1, ne_eq] at c_28
      refine am_iconst (pc' := 32) dX8_noCell_31 rfl rfl ?_
      refine am_goto (pc' := 36) dX8_noCell_32 rfl ?_
      refine am_reti dX8_noCell_36 rfl ?_
      first | exact ⟨by rw [if_pos (by rw [if_pos (by omega)])], rfl, rfl⟩ | exact ⟨by rw [if_neg (by rw [if_neg (by omega)]; omega), if_neg (by omega), if_pos (by omega)], rfl, rfl⟩ | exact ⟨by rw [if_neg (by rw [if_neg (by omega)]; omega), if_neg (by omega), if_neg (by omega)], rfl, rfl⟩ | fail
  · refine am_iconst (pc' := 10) dX8_noCell_9 rfl rfl ?_
    refine am_goto (pc' := 36) dX8_noCell_10 rfl ?_
    refine am_reti dX8_noCell_36 rfl ?_
    first | exact ⟨by rw [if_pos (by rw [if_pos (by omega)])], rfl, rfl⟩ | exact ⟨by rw [if_neg (by rw [if_neg (by omega)]; omega), if_neg (by omega), if_pos (by omega)], rfl, rfl⟩ | exact ⟨by rw [if_neg (by rw [if_neg (by omega)]; omega), if_neg (by omega), if_neg (by omega)], rfl, rfl⟩ | fail
theorem t8_lose {ρ h : am_H} {k : Int} (hM : am_LM ρ) : am_CT mX8_lose 0 0 [am_R 38, am_I k] ρ h (fun r ρ' h' => ρ' = ρ ∧ ((¬ (0 ≤ k ∧ k < 4) ∧ r = some (am_I (-1)) ∧ h' = h) ∨ ((0 ≤ k ∧ k < 4) ∧ r = some (am_I (if h 54 k < 0 then 0 else 1)) ∧ h' = am_u h 54 k (-1)))) := by
  have hn58 := hM.1
  have e1 := am_lm hM 38 27 54 (by decide)
  have l1 := am_lm hM 54 (-1) 4 (by decide)
  refine am_ct (ls := [some (am_R 38), some (am_I k), none]) ok_X8_lose rfl (fun _ => Nat.le_of_ble_eq_true rfl) (fun _ => rfl) (by intro v hv; simpa using hv) ?_
  refine am_iload_n (pc' := 1) dX8_lose_0 rfl rfl rfl ?_
  refine am_callSp (pc' := 4) (as := [_])  rfl dX8_lose_1 rfl ok_X8_noSheet ml_X8_113 sm_X8_noSheet (Nat.le_of_ble_eq_true rfl) rfl (Nat.le_of_ble_eq_true rfl) (t8_noSheet) ?_
  refine am_if_eq (pc' := 7) (tgt := 9) dX8_lose_4 rfl rfl (fun c_4 => ?_) (fun c_4 => ?_)
  · simp only [am_z0, am_z1, ne_eq] at c_4
    refine am_aload_n (pc' := 10) dX8_lose_9 rfl rfl rfl ?_
    refine am_getRk (ki := 27) (pc' := 13) (k := 27) (ci := 7) rfl dX8_lose_10 rfl fl_X8_55 (by first | assumption | exact ⟨by omega, by omega, rfl⟩) rfl (by assumption) (by omega) ?_
    refine am_iload_n (pc' := 14) dX8_lose_13 rfl rfl rfl ?_
    refine am_iaload (pc' := 15) dX8_lose_14 rfl (by first | assumption | exact ⟨by omega, by omega, rfl⟩) (by omega) (by omega) ?_
    refine am_if_ge (pc' := 18) (tgt := 22) dX8_lose_15 rfl rfl (fun c_15 => ?_) (fun c_15 => ?_)
    · refine am_iconst (pc' := 23) dX8_lose_22 rfl rfl ?_
      refine am_istore_n (pc' := 24) (ls' := [_, _, _]) dX8_lose_23 rfl rfl (Nat.le_of_ble_eq_true rfl) rfl rfl ?_
      refine am_aload_n (pc' := 25) dX8_lose_24 rfl rfl rfl ?_
      refine am_getRk (ki := 27) (pc' := 28) (k := 27) (ci := 7) rfl dX8_lose_25 rfl fl_X8_55 (by first | assumption | exact ⟨by omega, by omega, rfl⟩) rfl (by assumption) (by omega) ?_
      refine am_iload_n (pc' := 29) dX8_lose_28 rfl rfl rfl ?_
      refine am_iconst (pc' := 30) dX8_lose_29 rfl rfl ?_
      refine am_iastore (pc' := 31) dX8_lose_30 rfl (by first | assumption | exact ⟨by omega, by omega, rfl⟩) (by omega) (by omega) ?_
      refine am_iload_n (pc' := 32) dX8_lose_31 rfl rfl rfl ?_
      refine am_reti dX8_lose_32 rfl ?_
      exact ⟨rfl, Or.inr ⟨by omega, by first | rw [if_pos (by omega)] | rw [if_neg (by omega)], rfl⟩⟩
    · refine am_iconst (pc' := 19) dX8_lose_18 rfl rfl ?_
      refine am_goto (pc' := 23) dX8_lose_19 rfl ?_
      refine am_istore_n (pc' := 24) (ls' := [_, _, _]) dX8_lose_23 rfl rfl (Nat.le_of_ble_eq_true rfl) rfl rfl ?_
      refine am_aload_n (pc' := 25) dX8_lose_24 rfl rfl rfl ?_
      refine am_getRk (ki := 27) (pc' := 28) (k := 27) (ci := 7) rfl dX8_lose_25 rfl fl_X8_55 (by first | assumption | exact ⟨by omega, by omega, rfl⟩) rfl (by assumption) (by omega) ?_
      refine am_iload_n (pc' := 29) dX8_lose_28 rfl rfl rfl ?_
      refine am_iconst (pc' := 30) dX8_lose_29 rfl rfl ?_
      refine am_iastore (pc' := 31) dX8_lose_30 rfl (by first | assumption | exact ⟨by omega, by omega, rfl⟩) (by omega) (by omega) ?_
      refine am_iload_n (pc' := 32) dX8_lose_31 rfl rfl rfl ?_
      refine am_reti dX8_lose_32 rfl ?_
      exact ⟨rfl, Or.inr ⟨by omega, by first | rw [if_pos (by omega)] | rw [if_neg (by omega)], rfl⟩⟩
  · simp only [am_z0, am_z1, ne_eq] at c_4
    refine am_iconst (pc' := 8) dX8_lose_7 rfl rfl ?_
    refine am_reti dX8_lose_8 rfl ?_
    exact ⟨rfl, Or.inl ⟨by omega, rfl, rfl⟩⟩
theorem t8_put {ρ h : am_H} {k i v : Int} (hM : am_LM ρ) (hS : md_S h) : am_CT mX8_put 0 0 [am_R 38, am_I k, am_I i, am_I v] ρ h (fun r ρ' h' => ρ' = ρ ∧ ((¬ (0 ≤ k ∧ k < 4) ∧ r = some (am_I (-1)) ∧ h' = am_u h 38 0 0) ∨ ((0 ≤ k ∧ k < 4) ∧ sh_of (md_ln h k) (h 54 k) i 1 ≠ 0 ∧ r = some (am_I (-10 - sh_of (md_ln h k) (h 54 k) i 1)) ∧ h' = am_u h 38 0 (sh_of (md_ln h k) (h 54 k) i 1)) ∨
    ((0 ≤ k ∧ k < 4) ∧ sh_of (md_ln h k) (h 54 k) i 1 = 0 ∧ r = some (am_I 1) ∧ h' = am_u (am_u h 56 (60 * k + i) (sh_cut (h 55 k) v)) 38 0 0))) := by
  have hn58 := hM.1
  have e1 := am_lm hM 38 27 54 (by decide)
  have l1 := am_lm hM 54 (-1) 4 (by decide)
  have e2 := am_lm hM 38 28 55 (by decide)
  have l2 := am_lm hM 55 (-1) 4 (by decide)
  have e3 := am_lm hM 38 29 56 (by decide)
  have l3 := am_lm hM 56 (-1) 240 (by decide)
  refine am_ct (ls := [some (am_R 38), some (am_I k), some (am_I i), some (am_I v)]) ok_X8_put rfl (fun _ => Nat.le_of_ble_eq_true rfl) (fun _ => rfl) (by intro v hv; simpa using hv) ?_
  unfold sh_cut
  refine am_iload_n (pc' := 1) dX8_put_0 rfl rfl rfl ?_
  refine am_callSp (pc' := 4) (as := [_])  rfl dX8_put_1 rfl ok_X8_noSheet ml_X8_113 sm_X8_noSheet (Nat.le_of_ble_eq_true rfl) rfl (Nat.le_of_ble_eq_true rfl) (t8_noSheet) ?_
  refine am_if_eq (pc' := 7) (tgt := 13) dX8_put_4 rfl rfl (fun c_4 => ?_) (fun c_4 => ?_)
  · simp only [am_z0, am_z1, ne_eq] at c_4
    have hk : 0 ≤ k ∧ k < 4 := by omega
    have hs := hS k hk.1 hk.2
    have hb := sh_ofb (md_ln h k) (h 54 k) i 1
    refine am_aload_n (pc' := 14) dX8_put_13 rfl rfl rfl ?_
    refine am_iload_n (pc' := 15) dX8_put_14 rfl rfl rfl ?_
    refine am_iload_n (pc' := 16) dX8_put_15 rfl rfl rfl ?_
    refine am_callVp (pc' := 19) (as := [_, _]) (ci := 7)  rfl dX8_put_16 rfl ok_X8_noCell ml_X8_256 im_X8_noCell se_X8_noCell rfl (Nat.le_of_ble_eq_true rfl) rfl (Nat.le_of_ble_eq_true rfl) (by first | assumption | exact ⟨by omega, by omega, rfl⟩) (t8_noCell hM hS hk) ?_
    refine am_if_le (pc' := 22) (tgt := 33) dX8_put_19 rfl rfl (fun c_19 => ?_) (fun c_19 => ?_)
    · have hz := sh_of0 (show sh_of (md_ln h k) (h 54 k) i 1 = 0 by omega)
      refine am_aload_n (pc' := 34) dX8_put_33 rfl rfl rfl ?_
      refine am_getRk (ki := 29) (pc' := 37) (k := 29) (ci := 7) rfl dX8_put_34 rfl fl_X8_61 (by first | assumption | exact ⟨by omega, by omega, rfl⟩) rfl (by assumption) (by omega) ?_
      refine am_bipush (pc' := 39) dX8_put_37 rfl rfl (by decide) ?_
      refine am_iload_n (pc' := 40) dX8_put_39 rfl rfl rfl ?_
      refine am_imul (pc' := 41) dX8_put_40 rfl ⟨by omega, by omega⟩ ?_
      refine am_iload_n (pc' := 42) dX8_put_41 rfl rfl rfl ?_
      refine am_iadd (pc' := 43) dX8_put_42 rfl ⟨by omega, by omega⟩ ?_
      refine am_aload_n (pc' := 44) dX8_put_43 rfl rfl rfl ?_
      refine am_getRk (ki := 28) (pc' := 47) (k := 28) (ci := 7) rfl dX8_put_44 rfl fl_X8_58 (by first | assumption | exact ⟨by omega, by omega, rfl⟩) rfl (by assumption) (by omega) ?_
      refine am_iload_n (pc' := 48) dX8_put_47 rfl rfl rfl ?_
      refine am_iaload (pc' := 49) dX8_put_48 rfl (by first | assumption | exact ⟨by omega, by omega, rfl⟩) (by omega) (by omega) ?_
      refine am_if_ne (pc' := 52) (tgt := 57) dX8_put_49 rfl rfl (fun c_49 => ?_) (fun c_49 => ?_)
      · refine am_aload_n (pc' := 58) dX8_put_57 rfl rfl rfl ?_
        refine am_getRk (ki := 28) (pc' := 61) (k := 28) (ci := 7) rfl dX8_put_58 rfl fl_X8_58 (by first | assumption | exact ⟨by omega, by omega, rfl⟩) rfl (by assumption) (by omega) ?_
        refine am_iload_n (pc' := 62) dX8_put_61 rfl rfl rfl ?_
        refine am_iaload (pc' := 63) dX8_put_62 rfl (by first | assumption | exact ⟨by omega, by omega, rfl⟩) (by omega) (by omega) ?_
        refine am_iconst (pc' := 64) dX8_put_63 rfl rfl ?_
        refine am_icmp_ne (pc' := 67) (tgt := 72) dX8_put_64 rfl rfl (fun c_64 => ?_) (fun c_64 => ?_)
        · refine am_iload_n (pc' := 73) dX8_put_72 rfl rfl rfl ?_
          refine am_iastore (pc' := 74) dX8_put_73 rfl (by first | assumption | exact ⟨by omega, by omega, rfl⟩) (by omega) (by omega) ?_
          refine am_aload_n (pc' := 75) dX8_put_74 rfl rfl rfl ?_
          refine am_iconst (pc' := 76) dX8_put_75 rfl rfl ?_
          refine am_callV0 (pc' := 79) (as := [_]) (ci := 7)  rfl dX8_put_76 rfl ok_X8_refused ml_X8_117 im_X8_refused se_X8_refused rfl (Nat.le_of_ble_eq_true rfl) rfl (Nat.le_of_ble_eq_true rfl) (by first | assumption | exact ⟨by omega, by omega, rfl⟩) (t8_refused hM) (fun r_76 ρ_76 h_76 q_76 g_76 e_76 => ?_)
          obtain ⟨rfl, rfl, rfl⟩ := q_76
          refine am_reti dX8_put_79 rfl ?_
          first | exact ⟨rfl, Or.inr (Or.inr ⟨hk, by omega, rfl, by rw [if_pos (by omega)]⟩)⟩ | exact ⟨rfl, Or.inr (Or.inr ⟨hk, by omega, rfl, by rw [if_neg (by omega), if_pos (by omega)]⟩)⟩ | exact ⟨rfl, Or.inr (Or.inr ⟨hk, by omega, rfl, by rw [if_neg (by omega), if_neg (by omega)]⟩)⟩ | fail
        · refine am_iload_n (pc' := 68) dX8_put_67 rfl rfl rfl ?_
          refine am_i2s (pc' := 69) dX8_put_68 rfl ?_
          refine am_goto (pc' := 73) dX8_put_69 rfl ?_
          refine am_iastore (pc' := 74) dX8_put_73 rfl (by first | assumption | exact ⟨by omega, by omega, rfl⟩) (by omega) (by omega) ?_
          refine am_aload_n (pc' := 75) dX8_put_74 rfl rfl rfl ?_
          refine am_iconst (pc' := 76) dX8_put_75 rfl rfl ?_
          refine am_callV0 (pc' := 79) (as := [_]) (ci := 7)  rfl dX8_put_76 rfl ok_X8_refused ml_X8_117 im_X8_refused se_X8_refused rfl (Nat.le_of_ble_eq_true rfl) rfl (Nat.le_of_ble_eq_true rfl) (by first | assumption | exact ⟨by omega, by omega, rfl⟩) (t8_refused hM) (fun r_76 ρ_76 h_76 q_76 g_76 e_76 => ?_)
          obtain ⟨rfl, rfl, rfl⟩ := q_76
          refine am_reti dX8_put_79 rfl ?_
          first | exact ⟨rfl, Or.inr (Or.inr ⟨hk, by omega, rfl, by rw [if_pos (by omega)]⟩)⟩ | exact ⟨rfl, Or.inr (Or.inr ⟨hk, by omega, rfl, by rw [if_neg (by omega), if_pos (by omega)]⟩)⟩ | exact ⟨rfl, Or.inr (Or.inr ⟨hk, by omega, rfl, by rw [if_neg (by omega), if_neg (by omega)]⟩)⟩ | fail
      · refine am_iload_n (pc' := 53) dX8_put_52 rfl rfl rfl ?_
        refine am_i2b (pc' := 54) dX8_put_53 rfl ?_
        refine am_goto (pc' := 73) dX8_put_54 rfl ?_
        refine am_iastore (pc' := 74) dX8_put_73 rfl (by first | assumption | exact ⟨by omega, by omega, rfl⟩) (by omega) (by omega) ?_
        refine am_aload_n (pc' := 75) dX8_put_74 rfl rfl rfl ?_
        refine am_iconst (pc' := 76) dX8_put_75 rfl rfl ?_
        refine am_callV0 (pc' := 79) (as := [_]) (ci := 7)  rfl dX8_put_76 rfl ok_X8_refused ml_X8_117 im_X8_refused se_X8_refused rfl (Nat.le_of_ble_eq_true rfl) rfl (Nat.le_of_ble_eq_true rfl) (by first | assumption | exact ⟨by omega, by omega, rfl⟩) (t8_refused hM) (fun r_76 ρ_76 h_76 q_76 g_76 e_76 => ?_)
        obtain ⟨rfl, rfl, rfl⟩ := q_76
        refine am_reti dX8_put_79 rfl ?_
        first | exact ⟨rfl, Or.inr (Or.inr ⟨hk, by omega, rfl, by rw [if_pos (by omega)]⟩)⟩ | exact ⟨rfl, Or.inr (Or.inr ⟨hk, by omega, rfl, by rw [if_neg (by omega), if_pos (by omega)]⟩)⟩ | exact ⟨rfl, Or.inr (Or.inr ⟨hk, by omega, rfl, by rw [if_neg (by omega), if_neg (by omega)]⟩)⟩ | fail
    · refine am_aload_n (pc' := 23) dX8_put_22 rfl rfl rfl ?_
      refine am_aload_n (pc' := 24) dX8_put_23 rfl rfl rfl ?_
      refine am_iload_n (pc' := 25) dX8_put_24 rfl rfl rfl ?_
      refine am_iload_n (pc' := 26) dX8_put_25 rfl rfl rfl ?_
      refine am_callVp (pc' := 29) (as := [_, _]) (ci := 7)  rfl dX8_put_26 rfl ok_X8_noCell ml_X8_256 im_X8_noCell se_X8_noCell rfl (Nat.le_of_ble_eq_true rfl) rfl (Nat.le_of_ble_eq_true rfl) (by first | assumption | exact ⟨by omega, by omega, rfl⟩) (t8_noCell hM hS hk) ?_
      refine am_callV0 (pc' := 32) (as := [_]) (ci := 7)  rfl dX8_put_29 rfl ok_X8_failed ml_X8_105 im_X8_failed se_X8_failed rfl (Nat.le_of_ble_eq_true rfl) rfl (Nat.le_of_ble_eq_true rfl) (by first | assumption | exact ⟨by omega, by omega, rfl⟩) (t8_failed hM hb) (fun r_29 ρ_29 h_29 q_29 g_29 e_29 => ?_)
      obtain ⟨rfl, rfl, rfl⟩ := q_29
      refine am_reti dX8_put_32 rfl ?_
      exact ⟨rfl, Or.inr (Or.inl ⟨hk, by omega, rfl, rfl⟩)⟩
  · simp only [am_z0, am_z1, ne_eq] at c_4
    refine am_aload_n (pc' := 8) dX8_put_7 rfl rfl rfl ?_
    refine am_iconst (pc' := 9) dX8_put_8 rfl rfl ?_
    refine am_callV0 (pc' := 12) (as := [_]) (ci := 7)  rfl dX8_put_9 rfl ok_X8_refused ml_X8_117 im_X8_refused se_X8_refused rfl (Nat.le_of_ble_eq_true rfl) rfl (Nat.le_of_ble_eq_true rfl) (by first | assumption | exact ⟨by omega, by omega, rfl⟩) (t8_refused hM) (fun r_9 ρ_9 h_9 q_9 g_9 e_9 => ?_)
    obtain ⟨rfl, rfl, rfl⟩ := q_9
    refine am_reti dX8_put_12 rfl ?_
    exact ⟨rfl, Or.inl ⟨by omega, rfl, rfl⟩⟩
