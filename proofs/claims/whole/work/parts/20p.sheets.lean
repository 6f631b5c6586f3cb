/-! the model: sheets, further -/
theorem md_ln_p {h : am_H} {k : Int} (a : 0 ≤ h 54 k) : md_ln h k = h 55 k := by
  unfold md_ln
  rw [if_neg (by omega)]
theorem md_ln_n {h : am_H} {k : Int} (a : h 54 k < 0) : md_ln h k = -1 := by
  unfold md_ln
  rw [if_pos a]
theorem t8_cellsBarred {ρ h : am_H} {k l i n : Int} (hM : am_LM ρ) (hS : md_S h) (hk : 0 ≤ k ∧ k < 4) (hi : -2147483648 ≤ i ∧ i ≤ 2147483647) (hn : -4294967296 ≤ n ∧ n ≤ 4294967296) : am_CT mX8_cellsBarred 0 0 [am_R 38, am_I k, am_I l, am_I i, am_L n] ρ h (fun r ρ' h' => ρ' = ρ ∧ ((sh_as (md_ln h k) (h 54 k) l i n = 0 ∧ r = some (am_I 0) ∧ h' = h) ∨ (sh_as (md_ln h k) (h 54 k) l i n ≠ 0 ∧ r = some (am_I (-10 - sh_as (md_ln h k) (h 54 k) l i n)) ∧ h' = am_u h 38 0 (sh_as (md_ln h k) (h 54 k) l i n)))) := by
  have hn58 := hM.1
  have e1 := am_lm hM 38 27 54 (by decide)
  have l1 := am_lm hM 54 (-1) 4 (by decide)
  have e2 := am_lm hM 38 28 55 (by decide)
  have l2 := am_lm hM 55 (-1) 4 (by decide)
  have hs := hS k hk.1 hk.2
  have c2 : 0 ≤ h 54 k → h 55 k ≠ l → sh_as (md_ln h k) (h 54 k) l i n = 2 := fun a b => by
    rw [md_ln_p a]
    unfold sh_as
    rw [if_pos ⟨by omega, b⟩]
  have c1 : h 54 k < 0 → sh_as (md_ln h k) (h 54 k) l i n = 1 := fun a => by
    rw [md_ln_n a]
    unfold sh_as sh_of
    rw [if_neg (by omega), if_pos rfl]
  have c4 : 0 ≤ h 54 k → h 55 k = l → sh_as (md_ln h k) (h 54 k) l i n = if n < 0 then 4 else if 0 ≤ i ∧ i + n ≤ h 54 k then 0 else 3 := fun a b => by
    rw [md_ln_p a]
    unfold sh_as sh_of
    rw [if_neg (by omega), if_neg (by omega)]
  refine am_ct (ls := [some (am_R 38), some (am_I k), some (am_I l), some (am_I i), some (am_L n), none]) ok_X8_cellsBarred rfl (fun _ => Nat.le_of_ble_eq_true rfl) (fun _ => rfl) (by intro v hv; simpa using hv) ?_
  refine am_aload_n (pc' := 1) dX8_cellsBarred_0 rfl rfl rfl ?_
  refine am_getRk (ki := 27) (pc' := 4) (k := 27) (ci := 7) rfl dX8_cellsBarred_1 rfl fl_X8_55 (by first | assumption | exact ⟨by omega, by omega, rfl⟩) rfl (by assumption) (by omega) ?_
  refine am_iload_n (pc' := 5) dX8_cellsBarred_4 rfl rfl rfl ?_
  refine am_iaload (pc' := 6) dX8_cellsBarred_5 rfl (by first | assumption | exact ⟨by omega, by omega, rfl⟩) (by omega) (by omega) ?_
  refine am_if_lt (pc' := 9) (tgt := 25) dX8_cellsBarred_6 rfl rfl (fun c_6 => ?_) (fun c_6 => ?_)
  · refine am_aload_n (pc' := 26) dX8_cellsBarred_25 rfl rfl rfl ?_
    refine am_getRk (ki := 27) (pc' := 29) (k := 27) (ci := 7) rfl dX8_cellsBarred_26 rfl fl_X8_55 (by first | assumption | exact ⟨by omega, by omega, rfl⟩) rfl (by assumption) (by omega) ?_
    refine am_iload_n (pc' := 30) dX8_cellsBarred_29 rfl rfl rfl ?_
    refine am_iaload (pc' := 31) dX8_cellsBarred_30 rfl (by first | assumption | exact ⟨by omega, by omega, rfl⟩) (by omega) (by omega) ?_
    refine am_if_ge (pc' := 34) (tgt := 40) dX8_cellsBarred_31 rfl rfl (fun c_31 => ?_) (fun c_31 => ?_)
    · refine am_lload (pc' := 42) dX8_cellsBarred_40 rfl rfl ?_
      refine am_lconst0 (pc' := 43) dX8_cellsBarred_42 rfl ?_
      refine am_lcmp_ge (pc1 := 44) (pc' := 47) (tgt := 53) dX8_cellsBarred_43 rfl dX8_cellsBarred_44 rfl rfl (fun c_43 => ?_) (fun c_43 => ?_)
      · refine am_iload_n (pc' := 54) dX8_cellsBarred_53 rfl rfl rfl ?_
        refine am_lload (pc' := 56) dX8_cellsBarred_54 rfl rfl ?_
        refine am_aload_n (pc' := 57) dX8_cellsBarred_56 rfl rfl rfl ?_
        refine am_getRk (ki := 27) (pc' := 60) (k := 27) (ci := 7) rfl dX8_cellsBarred_57 rfl fl_X8_55 (by first | assumption | exact ⟨by omega, by omega, rfl⟩) rfl (by assumption) (by omega) ?_
        refine am_iload_n (pc' := 61) dX8_cellsBarred_60 rfl rfl rfl ?_
        refine am_iaload (pc' := 62) dX8_cellsBarred_61 rfl (by first | assumption | exact ⟨by omega, by omega, rfl⟩) (by omega) (by omega) ?_
        refine am_callSp (pc' := 65) (as := [_, _, _])  rfl dX8_cellsBarred_62 rfl ok_X8_isBeyond ml_X8_109 sm_X8_isBeyond (Nat.le_of_ble_eq_true rfl) rfl (Nat.le_of_ble_eq_true rfl) (t8_isBeyond hi hn) ?_
        refine am_if_eq (pc' := 68) (tgt := 76) dX8_cellsBarred_65 rfl rfl (fun c_65 => ?_) (fun c_65 => ?_)
        · simp only [am_z0, am_z1, ne_eq] at c_65
          refine am_iconst (pc' := 77) dX8_cellsBarred_76 rfl rfl ?_
          refine am_reti dX8_cellsBarred_77 rfl ?_
          first | (exfalso; omega) | (rw [c2 (by omega) (by omega)]; exact ⟨rfl, Or.inr ⟨by decide, rfl, rfl⟩⟩) | (rw [c1 (by omega)]; exact ⟨rfl, Or.inr ⟨by decide, rfl, rfl⟩⟩) | (rw [c4 (by omega) (by omega), if_pos (by omega)]; exact ⟨rfl, Or.inr ⟨by decide, rfl, rfl⟩⟩) | (rw [c4 (by omega) (by omega), if_neg (by omega), if_neg (by omega)]; exact ⟨rfl, Or.inr ⟨by decide, rfl, rfl⟩⟩) | (rw [c4 (by omega) (by omega), if_neg (by omega), if_pos (by omega)]; exact ⟨rfl, Or.inl ⟨rfl, rfl, rfl⟩⟩) | fail
        · simp only [am_z0, am_z1, ne_eq] at c_65
          refine am_aload_n (pc' := 69) dX8_cellsBarred_68 rfl rfl rfl ?_
          refine am_iconst (pc' := 70) dX8_cellsBarred_69 rfl rfl ?_
          refine am_callV0 (pc' := 73) (as := [_]) (ci := 7)  rfl dX8_cellsBarred_70 rfl ok_X8_failed ml_X8_105 im_X8_failed se_X8_failed rfl (Nat.le_of_ble_eq_true rfl) rfl (Nat.le_of_ble_eq_true rfl) (by first | assumption | exact ⟨by omega, by omega, rfl⟩) (t8_failed hM (by omega)) (fun r_70 ρ_70 h_70 q_70 g_70 e_70 => ?_)
          obtain ⟨rfl, rfl, rfl⟩ := q_70
          refine am_goto (pc' := 77) dX8_cellsBarred_73 rfl ?_
          refine am_reti dX8_cellsBarred_77 rfl ?_
          first | (exfalso; omega) | (rw [c2 (by omega) (by omega)]; exact ⟨rfl, Or.inr ⟨by decide, rfl, rfl⟩⟩) | (rw [c1 (by omega)]; exact ⟨rfl, Or.inr ⟨by decide, rfl, rfl⟩⟩) | (rw [c4 (by omega) (by omega), if_pos (by omega)]; exact ⟨rfl, Or.inr ⟨by decide, rfl, rfl⟩⟩) | (rw [c4 (by omega) (by omega), if_neg (by omega), if_neg (by omega)]; exact ⟨rfl, Or.inr ⟨by decide, rfl, rfl⟩⟩) | (rw [c4 (by omega) (by omega), if_neg (by omega), if_pos (by omega)]; exact ⟨rfl, Or.inl ⟨rfl, rfl, rfl⟩⟩) | fail
      · refine am_aload_n (pc' := 48) dX8_cellsBarred_47 rfl rfl rfl ?_
        refine am_iconst (pc' := 49) dX8_cellsBarred_48 rfl rfl ?_
        refine am_callV0 (pc' := 52) (as := [_]) (ci := 7)  rfl dX8_cellsBarred_49 rfl ok_X8_failed ml_X8_105 im_X8_failed se_X8_failed rfl (Nat.le_of_ble_eq_true rfl) rfl (Nat.le_of_ble_eq_true rfl) (by first | assumption | exact ⟨by omega, by omega, rfl⟩) (t8_failed hM (by omega)) (fun r_49 ρ_49 h_49 q_49 g_49 e_49 => ?_)
        obtain ⟨rfl, rfl, rfl⟩ := q_49
        refine am_reti dX8_cellsBarred_52 rfl ?_
        first | (exfalso; omega) | (rw [c2 (by omega) (by omega)]; exact ⟨rfl, Or.inr ⟨by decide, rfl, rfl⟩⟩) | (rw [c1 (by omega)]; exact ⟨rfl, Or.inr ⟨by decide, rfl, rfl⟩⟩) | (rw [c4 (by omega) (by omega), if_pos (by omega)]; exact ⟨rfl, Or.inr ⟨by decide, rfl, rfl⟩⟩) | (rw [c4 (by omega) (by omega), if_neg (by omega), if_neg (by omega)]; exact ⟨rfl, Or.inr ⟨by decide, rfl, rfl⟩⟩) | (rw [c4 (by omega) (by omega), if_neg (by omega), if_pos (by omega)]; exact ⟨rfl, Or.inl ⟨rfl, rfl, rfl⟩⟩) | fail
    · refine am_aload_n (pc' := 35) dX8_cellsBarred_34 rfl rfl rfl ?_
      refine am_iconst (pc' := 36) dX8_cellsBarred_35 rfl rfl ?_
      refine am_callV0 (pc' := 39) (as := [_]) (ci := 7)  rfl dX8_cellsBarred_36 rfl ok_X8_failed ml_X8_105 im_X8_failed se_X8_failed rfl (Nat.le_of_ble_eq_true rfl) rfl (Nat.le_of_ble_eq_true rfl) (by first | assumption | exact ⟨by omega, by omega, rfl⟩) (t8_failed hM (by omega)) (fun r_36 ρ_36 h_36 q_36 g_36 e_36 => ?_)
      obtain ⟨rfl, rfl, rfl⟩ := q_36
      refine am_reti dX8_cellsBarred_39 rfl ?_
      first | (exfalso; omega) | (rw [c2 (by omega) (by omega)]; exact ⟨rfl, Or.inr ⟨by decide, rfl, rfl⟩⟩) | (rw [c1 (by omega)]; exact ⟨rfl, Or.inr ⟨by decide, rfl, rfl⟩⟩) | (rw [c4 (by omega) (by omega), if_pos (by omega)]; exact ⟨rfl, Or.inr ⟨by decide, rfl, rfl⟩⟩) | (rw [c4 (by omega) (by omega), if_neg (by omega), if_neg (by omega)]; exact ⟨rfl, Or.inr ⟨by decide, rfl, rfl⟩⟩) | (rw [c4 (by omega) (by omega), if_neg (by omega), if_pos (by omega)]; exact ⟨rfl, Or.inl ⟨rfl, rfl, rfl⟩⟩) | fail
  · refine am_aload_n (pc' := 10) dX8_cellsBarred_9 rfl rfl rfl ?_
    refine am_getRk (ki := 28) (pc' := 13) (k := 28) (ci := 7) rfl dX8_cellsBarred_10 rfl fl_X8_58 (by first | assumption | exact ⟨by omega, by omega, rfl⟩) rfl (by assumption) (by omega) ?_
    refine am_iload_n (pc' := 14) dX8_cellsBarred_13 rfl rfl rfl ?_
    refine am_iaload (pc' := 15) dX8_cellsBarred_14 rfl (by first | assumption | exact ⟨by omega, by omega, rfl⟩) (by omega) (by omega) ?_
    refine am_iload_n (pc' := 16) dX8_cellsBarred_15 rfl rfl rfl ?_
    refine am_icmp_eq (pc' := 19) (tgt := 25) dX8_cellsBarred_16 rfl rfl (fun c_16 => ?_) (fun c_16 => ?_)
    · refine am_aload_n (pc' := 26) dX8_cellsBarred_25 rfl rfl rfl ?_
      refine am_getRk (ki := 27) (pc' := 29) (k := 27) (ci := 7) rfl dX8_cellsBarred_26 rfl fl_X8_55 (by first | assumption | exact ⟨by omega, by omega, rfl⟩) rfl (by assumption) (by omega) ?_
      refine am_iload_n (pc' := 30) dX8_cellsBarred_29 rfl rfl rfl ?_
      refine am_iaload (pc' := 31) dX8_cellsBarred_30 rfl (by first | assumption | exact ⟨by omega, by omega, rfl⟩) (by omega) (by omega) ?_
      refine am_if_ge (pc' := 34) (tgt := 40) dX8_cellsBarred_31 rfl rfl (fun c_31 => ?_) (fun c_31 => ?_)
      · refine am_lload (pc' := 42) dX8_cellsBarred_40 rfl rfl ?_
        refine am_lconst0 (pc' := 43) dX8_cellsBarred_42 rfl ?_
        refine am_lcmp_ge (pc1 := 44) (pc' := 47) (tgt := 53) dX8_cellsBarred_43 rfl dX8_cellsBarred_44 rfl rfl (fun c_43 => ?_) (fun c_43 => ?_)
        · refine am_iload_n (pc' := 54) dX8_cellsBarred_53 rfl rfl rfl ?_
          refine am_lload (pc' := 56) dX8_cellsBarred_54 rfl rfl ?_
          refine am_aload_n (pc' := 57) dX8_cellsBarred_56 rfl rfl rfl ?_
          refine am_getRk (ki := 27) (pc' := 60) (k := 27) (ci := 7) rfl dX8_cellsBarred_57 rfl fl_X8_55 (by first | assumption | exact ⟨by omega, by omega, rfl⟩) rfl (by assumption) (by omega) ?_
          refine am_iload_n (pc' := 61) dX8_cellsBarred_60 rfl rfl rfl ?_
          refine am_iaload (pc' := 62) dX8_cellsBarred_61 rfl (by first | assumption | exact ⟨by omega, by omega, rfl⟩) (by omega) (by omega) ?_
          refine am_callSp (pc' := 65) (as := [_, _, _])  rfl dX8_cellsBarred_62 rfl ok_X8_isBeyond ml_X8_109 sm_X8_isBeyond (Nat.le_of_ble_eq_true rfl) rfl (Nat.le_of_ble_eq_true rfl) (t8_isBeyond hi hn) ?_
          refine am_if_eq (pc' := 68) (tgt := 76) dX8_cellsBarred_65 rfl rfl (fun c_65 => ?_) (fun c_65 => ?_)
          · simp only [am_z0, am_z1, ne_eq] at c_65
            refine am_iconst (pc' := 77) dX8_cellsBarred_76 rfl rfl ?_
            refine am_reti dX8_cellsBarred_77 rfl ?_
            first | (exfalso; omega) | (rw [c2 (by omega) (by omega)]; exact ⟨rfl, Or.inr ⟨by decide, rfl, rfl⟩⟩) | (rw [c1 (by omega)]; exact ⟨rfl, Or.inr ⟨by decide, rfl, rfl⟩⟩) | (rw [c4 (by omega) (by omega), if_pos (by omega)]; exact ⟨rfl, Or.inr ⟨by decide, rfl, rfl⟩⟩) | (rw [c4 (by omega) (by omega), if_neg (by omega), if_neg (by omega)]; exact ⟨rfl, Or.inr ⟨by decide, rfl, rfl⟩⟩) | (rw [c4 (by omega) (by omega), if_neg (by omega), if_pos (by omega)]; exact ⟨rfl, Or.inl ⟨rfl, rfl, rfl⟩⟩) | fail
          · simp only [am_z0, am_z1, ne_eq] at c_65
            refine am_aload_n (pc' := 69) dX8_cellsBarred_68 rfl rfl rfl ?_
            refine am_iconst (pc' := 70) dX8_cellsBarred_69 rfl rfl ?_
            refine am_callV0 (pc' := 73) (as := [_]) (ci := 7)  rfl dX8_cellsBarred_70 rfl ok_X8_failed ml_X8_105 im_X8_failed se_X8_failed rfl (Nat.le_of_ble_eq_true rfl) rfl (Nat.le_of_ble_eq_true rfl) (by first | assumption | exact ⟨by omega, by omega, rfl⟩) (t8_failed hM (by omega)) (fun r_70 ρ_70 h_70 q_70 g_70 e_70 => ?_)
            obtain ⟨rfl, rfl, rfl⟩ := q_70
            refine am_goto (pc' := 77) dX8_cellsBarred_73 rfl ?_
            refine am_reti dX8_cellsBarred_77 rfl ?_
            first | (exfalso; omega) | (rw [c2 (by omega) (by omega)]; exact ⟨rfl, Or.inr ⟨by decide, rfl, rfl⟩⟩) | (rw [c1 (by omega)]; exact ⟨rfl, Or.inr ⟨by decide, rfl, rfl⟩⟩) | (rw [c4 (by omega) (by omega), if_pos (by omega)]; exact ⟨rfl, Or.inr ⟨by decide, rfl, rfl⟩⟩) | (rw [c4 (by omega) (by omega), if_neg (by omega), if_neg (by omega)]; exact ⟨rfl, Or.inr ⟨by decide, rfl, rfl⟩⟩) | (rw [c4 (by omega) (by omega), if_neg (by omega), if_pos (by omega)]; exact ⟨rfl, Or.inl ⟨rfl, rfl, rfl⟩⟩) | fail
        · refine am_aload_n (pc' := 48) dX8_cellsBarred_47 rfl rfl rfl ?_
          refine am_iconst (pc' := 49) dX8_cellsBarred_48 rfl rfl ?_
          refine am_callV0 (pc' := 52) (as := [_]) (ci := 7)  rfl dX8_cellsBarred_49 rfl ok_X8_failed ml_X8_105 im_X8_failed se_X8_failed rfl (Nat.le_of_ble_eq_true rfl) rfl (Nat.le_of_ble_eq_true rfl) (by first | assumption | exact ⟨by omega, by omega, rfl⟩) (t8_failed hM (by omega)) (fun r_49 ρ_49 h_49 q_49 g_49 e_49 => ?_)
          obtain ⟨rfl, rfl, rfl⟩ := q_49
          refine am_reti dX8_cellsBarred_52 rfl ?_
          first | (exfalso; omega) | (rw [c2 (by omega) (by omega)]; exact ⟨rfl, Or.inr ⟨by decide, rfl, rfl⟩⟩) | (rw [c1 (by omega)]; exact ⟨rfl, Or.inr ⟨by decide, rfl, rfl⟩⟩) | (rw [c4 (by omega) (by omega), if_pos (by omega)]; exact ⟨rfl, Or.inr ⟨by decide, rfl, rfl⟩⟩) | (rw [c4 (by omega) (by omega), if_neg (by omega), if_neg (by omega)]; exact ⟨rfl, Or.inr ⟨by decide, rfl, rfl⟩⟩) | (rw [c4 (by omega) (by omega), if_neg (by omega), if_pos (by omega)]; exact ⟨rfl, Or.inl ⟨rfl, rfl, rfl⟩⟩) | fail
      · refine am_aload_n (pc' := 35) dX8_cellsBarred_34 rfl rfl rfl ?_
        refine am_iconst (pc' := 36) dX8_cellsBarred_35 rfl rfl ?_
        refine am_callV0 (pc' := 39) (as := [_]) (ci := 7)  rfl dX8_cellsBarred_36 rfl ok_X8_failed ml_X8_105 im_X8_failed se_X8_failed rfl (Nat.le_of_ble_eq_true rfl) rfl (Nat.le_of_ble_eq_true rfl) (by first | assumption | exact ⟨by omega, by omega, rfl⟩) (t8_failed hM (by omega)) (fun r_36 ρ_36 h_36 q_36 g_36 e_36 => ?_)
        obtain ⟨rfl, rfl, rfl⟩ := q_36
        refine am_reti dX8_cellsBarred_39 rfl ?_
        first | (exfalso; omega) | (rw [c2 (by omega) (by omega)]; exact ⟨rfl, Or.inr ⟨by decide, rfl, rfl⟩⟩) | (rw [c1 (by omega)]; exact ⟨rfl, Or.inr ⟨by decide, rfl, rfl⟩⟩) | (rw [c4 (by omega) (by omega), if_pos (by omega)]; exact ⟨rfl, Or.inr ⟨by decide, rfl, rfl⟩⟩) | (rw [c4 (by omega) (by omega), if_neg (by omega), if_neg (by omega)]; exact ⟨rfl, Or.inr ⟨by decide, rfl, rfl⟩⟩) | (rw [c4 (by omega) (by omega), if_neg (by omega), if_pos (by omega)]; exact ⟨rfl, Or.inl ⟨rfl, rfl, rfl⟩⟩) | fail
    · refine am_aload_n (pc' := 20) dX8_cellsBarred_19 rfl rfl rfl ?_
      refine am_iconst (pc' := 21) dX8_cellsBarred_20 rfl rfl ?_
      refine am_callV0 (pc' := 24) (as := [_]) (ci := 7)  rfl dX8_cellsBarred_21 rfl ok_X8_failed ml_X8_105 im_X8_failed se_X8_failed rfl (Nat.le_of_ble_eq_true rfl) rfl (Nat.le_of_ble_eq_true rfl) (by first | assumption | exact ⟨by omega, by omega, rfl⟩) (t8_failed hM (by omega)) (fun r_21 ρ_21 h_21 q_21 g_21 e_21 => ?_)
      obtain ⟨rfl, rfl, rfl⟩ := q_21
      refine am_reti dX8_cellsBarred_24 rfl ?_
      first | (exfalso; omega) | (rw [c2 (by omega) (by omega)]; exact ⟨rfl, Or.inr ⟨by decide, rfl, rfl⟩⟩) | (rw [c1 (by omega)]; exact ⟨rfl, Or.inr ⟨by decide, rfl, rfl⟩⟩) | (rw [c4 (by omega) (by omega), if_pos (by omega)]; exact ⟨rfl, Or.inr ⟨by decide, rfl, rfl⟩⟩) | (rw [c4 (by omega) (by omega), if_neg (by omega), if_neg (by omega)]; exact ⟨rfl, Or.inr ⟨by decide, rfl, rfl⟩⟩) | (rw [c4 (by omega) (by omega), if_neg (by omega), if_pos (by omega)]; exact ⟨rfl, Or.inl ⟨rfl, rfl, rfl⟩⟩) | fail
theorem t8_cell {ρ h : am_H} {k i l : Int} (hM : am_LM ρ) (hS : md_S h) : am_CT mX8_cell 0 0 [am_R 38, am_I k, am_I i, am_I l] ρ h (fun r ρ' h' => ρ' = ρ ∧ ((¬ ((0 ≤ k ∧ k < 4) ∧ 0 ≤ l ∧ l < 3) ∧ r = some (am_L (-9223372036854775808)) ∧ h' = am_u h 38 0 0) ∨ (((0 ≤ k ∧ k < 4) ∧ 0 ≤ l ∧ l < 3) ∧ h' = am_u h 38 0 (sh_as (md_ln h k) (h 54 k) l i 1) ∧ r = some (am_L (if sh_as (md_ln h k) (h 54 k) l i 1 = 0 then h 56 (60 * k + i) else -9223372036854775808))))) := by
  have hn58 := hM.1
  have e1 := am_lm hM 38 27 54 (by decide)
  have l1 := am_lm hM 54 (-1) 4 (by decide)
  have e2 := am_lm hM 38 28 55 (by decide)
  have l2 := am_lm hM 55 (-1) 4 (by decide)
  have e3 := am_lm hM 38 29 56 (by decide)
  have l3 := am_lm hM 56 (-1) 240 (by decide)
  have u : ∀ x j, x ≠ 38 → am_u h 38 0 0 x j = h x j := fun x j z => am_u_n (by omega)
  have hS0 : md_S (am_u h 38 0 0) := fun k k0 k1 => by rw [u 54 k (by decide), u 55 k (by decide)]; exact hS k k0 k1
  have eln : md_ln (am_u h 38 0 0) k = md_ln h k := by unfold md_ln; rw [u 54 k (by decide), u 55 k (by decide)]
  refine am_ct (ls := [some (am_R 38), some (am_I k), some (am_I i), some (am_I l)]) ok_X8_cell rfl (fun _ => Nat.le_of_ble_eq_true rfl) (fun _ => rfl) (by intro v hv; simpa using hv) ?_
  refine am_aload_n (pc' := 1) dX8_cell_0 rfl rfl rfl ?_
  refine am_iconst (pc' := 2) dX8_cell_1 rfl rfl ?_
  refine am_putIk (ki := 0) (pc' := 5) (k := 0) (ci := 7) rfl dX8_cell_2 rfl fl_X8_69 (by first | assumption | exact ⟨by omega, by omega, rfl⟩) rfl (fun _ _ _ e => by cases e; rfl) ?_
  refine am_iload_n (pc' := 6) dX8_cell_5 rfl rfl rfl ?_
  refine am_callSp (pc' := 9) (as := [_])  rfl dX8_cell_6 rfl ok_X8_noSheet ml_X8_113 sm_X8_noSheet (Nat.le_of_ble_eq_true rfl) rfl (Nat.le_of_ble_eq_true rfl) (t8_noSheet) ?_
  refine am_if_ne (pc' := 12) (tgt := 24) dX8_cell_9 rfl rfl (fun c_9 => ?_) (fun c_9 => ?_)
  · simp only [am_z0, am_z1, ne_eq] at c_9
    refine am_callSp (pc' := 27) (as := [])  rfl dX8_cell_24 rfl ok_X8_lost ml_X8_73 sm_X8_lost (Nat.le_of_ble_eq_true rfl) rfl (Nat.le_of_ble_eq_true rfl) (t8_lost) ?_
    refine am_retl dX8_cell_27 rfl ?_
    exact ⟨rfl, Or.inl ⟨by omega, rfl, rfl⟩⟩
  · simp only [am_z0, am_z1, ne_eq] at c_9
    refine am_iload_n (pc' := 13) dX8_cell_12 rfl rfl rfl ?_
    refine am_i2l (pc' := 14) dX8_cell_13 rfl ?_
    refine am_lconst0 (pc' := 15) dX8_cell_14 rfl ?_
    refine am_ldc2 (pc' := 18) (x := 2) dX8_cell_15 rfl kl_X8_97 rfl rfl ?_
    refine am_callSp (pc' := 21) (as := [_, _, _])  rfl dX8_cell_18 rfl ok_X8_in ml_X8_80 sm_X8_in (Nat.le_of_ble_eq_true rfl) rfl (Nat.le_of_ble_eq_true rfl) (t8_in) ?_
    refine am_if_ne (pc' := 24) (tgt := 28) dX8_cell_21 rfl rfl (fun c_21 => ?_) (fun c_21 => ?_)
    · simp only [am_z0, am_z1, ne_eq] at c_21
      have hk : 0 ≤ k ∧ k < 4 := by omega
      have hs := hS k hk.1 hk.2
      have hb := sh_ofb (md_ln h k) (h 54 k) i 1
      have c2 : 0 ≤ h 54 k → h 55 k ≠ l → sh_as (md_ln h k) (h 54 k) l i 1 = 2 := fun a b => by
        rw [md_ln_p a]
        unfold sh_as
        rw [if_pos ⟨by omega, b⟩]
      have c4 : h 54 k < 0 ∨ h 55 k = l → sh_as (md_ln h k) (h 54 k) l i 1 = sh_of (md_ln h k) (h 54 k) i 1 := fun a => by
        unfold sh_as
        rcases (show h 54 k < 0 ∨ 0 ≤ h 54 k by omega) with z | z
        · rw [md_ln_n z, if_neg (by omega)]
        · rw [md_ln_p z, if_neg (by omega)]
      refine am_aload_n (pc' := 29) dX8_cell_28 rfl rfl rfl ?_
      refine am_getRk (ki := 27) (pc' := 32) (k := 27) (ci := 7) rfl dX8_cell_29 rfl fl_X8_55 (by first | assumption | exact ⟨by omega, by omega, rfl⟩) rfl (by assumption) (by omega) ?_
      refine am_iload_n (pc' := 33) dX8_cell_32 rfl rfl rfl ?_
      refine am_iaload (pc' := 34) dX8_cell_33 rfl (by first | assumption | exact ⟨by omega, by omega, rfl⟩) (by omega) (by omega) ?_
      rw [u 54 k (by decide)]
      refine am_if_lt (pc' := 37) (tgt := 53) dX8_cell_34 rfl rfl (fun c_34 => ?_) (fun c_34 => ?_)
      · refine am_aload_n (pc' := 54) dX8_cell_53 rfl rfl rfl ?_
        refine am_iload_n (pc' := 55) dX8_cell_54 rfl rfl rfl ?_
        refine am_iload_n (pc' := 56) dX8_cell_55 rfl rfl rfl ?_
        refine am_callVp (pc' := 59) (as := [_, _]) (ci := 7)  rfl dX8_cell_56 rfl ok_X8_noCell ml_X8_256 im_X8_noCell se_X8_noCell rfl (Nat.le_of_ble_eq_true rfl) rfl (Nat.le_of_ble_eq_true rfl) (by first | assumption | exact ⟨by omega, by omega, rfl⟩) (t8_noCell (h := am_u h 38 0 0) hM hS0 hk) ?_
        rw [eln, u 54 k (by decide)]
        refine am_if_le (pc' := 62) (tgt := 75) dX8_cell_59 rfl rfl (fun c_59 => ?_) (fun c_59 => ?_)
        · have hz := sh_of0 (show sh_of (md_ln h k) (h 54 k) i 1 = 0 by omega)
          refine am_aload_n (pc' := 76) dX8_cell_75 rfl rfl rfl ?_
          refine am_getRk (ki := 29) (pc' := 79) (k := 29) (ci := 7) rfl dX8_cell_76 rfl fl_X8_61 (by first | assumption | exact ⟨by omega, by omega, rfl⟩) rfl (by assumption) (by omega) ?_
          refine am_bipush (pc' := 81) dX8_cell_79 rfl rfl (by decide) ?_
          refine am_iload_n (pc' := 82) dX8_cell_81 rfl rfl rfl ?_
          refine am_imul (pc' := 83) dX8_cell_82 rfl ⟨by omega, by omega⟩ ?_
          refine am_iload_n (pc' := 84) dX8_cell_83 rfl rfl rfl ?_
          refine am_iadd (pc' := 85) dX8_cell_84 rfl ⟨by omega, by omega⟩ ?_
          refine am_iaload (pc' := 86) dX8_cell_85 rfl (by first | assumption | exact ⟨by omega, by omega, rfl⟩) (by omega) (by omega) ?_
          refine am_i2l (pc' := 87) dX8_cell_86 rfl ?_
          refine am_retl dX8_cell_87 rfl ?_
          have h9 := c4 (by omega)
          rw [h9]
          first | exact ⟨rfl, Or.inr ⟨by omega, by rw [am_uu], by rw [if_neg (by omega)]⟩⟩ | exact ⟨rfl, Or.inr ⟨by omega, by rw [show sh_of (md_ln h k) (h 54 k) i 1 = 0 by omega], by rw [if_pos (by omega), u 56 _ (by decide)]⟩⟩ | fail
        · refine am_aload_n (pc' := 63) dX8_cell_62 rfl rfl rfl ?_
          refine am_aload_n (pc' := 64) dX8_cell_63 rfl rfl rfl ?_
          refine am_iload_n (pc' := 65) dX8_cell_64 rfl rfl rfl ?_
          refine am_iload_n (pc' := 66) dX8_cell_65 rfl rfl rfl ?_
          refine am_callVp (pc' := 69) (as := [_, _]) (ci := 7)  rfl dX8_cell_66 rfl ok_X8_noCell ml_X8_256 im_X8_noCell se_X8_noCell rfl (Nat.le_of_ble_eq_true rfl) rfl (Nat.le_of_ble_eq_true rfl) (by first | assumption | exact ⟨by omega, by omega, rfl⟩) (t8_noCell (h := am_u h 38 0 0) hM hS0 hk) ?_
          rw [eln, u 54 k (by decide)]
          refine am_callV0 (pc' := 72) (as := [_]) (ci := 7)  rfl dX8_cell_69 rfl ok_X8_failedLong ml_X8_259 im_X8_failedLong se_X8_failedLong rfl (Nat.le_of_ble_eq_true rfl) rfl (Nat.le_of_ble_eq_true rfl) (by first | assumption | exact ⟨by omega, by omega, rfl⟩) (t8_failedLong hM) (fun r_69 ρ_69 h_69 q_69 g_69 e_69 => ?_)
          obtain ⟨rfl, rfl, rfl⟩ := q_69
          refine am_goto (pc' := 87) dX8_cell_72 rfl ?_
          refine am_retl dX8_cell_87 rfl ?_
          have h9 := c4 (by omega)
          rw [h9]
          first | exact ⟨rfl, Or.inr ⟨by omega, by rw [am_uu], by rw [if_neg (by omega)]⟩⟩ | exact ⟨rfl, Or.inr ⟨by omega, by rw [show sh_of (md_ln h k) (h 54 k) i 1 = 0 by omega], by rw [if_pos (by omega), u 56 _ (by decide)]⟩⟩ | fail
      · refine am_aload_n (pc' := 38) dX8_cell_37 rfl rfl rfl ?_
        refine am_getRk (ki := 28) (pc' := 41) (k := 28) (ci := 7) rfl dX8_cell_38 rfl fl_X8_58 (by first | assumption | exact ⟨by omega, by omega, rfl⟩) rfl (by assumption) (by omega) ?_
        refine am_iload_n (pc' := 42) dX8_cell_41 rfl rfl rfl ?_
        refine am_iaload (pc' := 43) dX8_cell_42 rfl (by first | assumption | exact ⟨by omega, by omega, rfl⟩) (by omega) (by omega) ?_
        rw [u 55 k (by decide)]
        refine am_iload_n (pc' := 44) dX8_cell_43 rfl rfl rfl ?_
        refine am_icmp_eq (pc' := 47) (tgt := 53) dX8_cell_44 rfl rfl (fun c_44 => ?_) (fun c_44 => ?_)
        · refine am_aload_n (pc' := 54) dX8_cell_53 rfl rfl rfl ?_
          refine am_iload_n (pc' := 55) dX8_cell_54 rfl rfl rfl ?_
          refine am_iload_n (pc' := 56) dX8_cell_55 rfl rfl rfl ?_
          refine am_callVp (pc' := 59) (as := [_, _]) (ci := 7)  rfl dX8_cell_56 rfl ok_X8_noCell ml_X8_256 im_X8_noCell se_X8_noCell rfl (Nat.le_of_ble_eq_true rfl) rfl (Nat.le_of_ble_eq_true rfl) (by first | assumption | exact ⟨by omega, by omega, rfl⟩) (t8_noCell (h := am_u h 38 0 0) hM hS0 hk) ?_
          rw [eln, u 54 k (by decide)]
          refine am_if_le (pc' := 62) (tgt := 75) dX8_cell_59 rfl rfl (fun c_59 => ?_) (fun c_59 => ?_)
          · have hz := sh_of0 (show sh_of (md_ln h k) (h 54 k) i 1 = 0 by omega)
            refine am_aload_n (pc' := 76) dX8_cell_75 rfl rfl rfl ?_
            refine am_getRk (ki := 29) (pc' := 79) (k := 29) (ci := 7) rfl dX8_cell_76 rfl fl_X8_61 (by first | assumption | exact ⟨by omega, by omega, rfl⟩) rfl (by assumption) (by omega) ?_
            refine am_bipush (pc' := 81) dX8_cell_79 rfl rfl (by decide) ?_
            refine am_iload_n (pc' := 82) dX8_cell_81 rfl rfl rfl ?_
            refine am_imul (pc' := 83) dX8_cell_82 rfl ⟨by omega, by omega⟩ ?_
            refine am_iload_n (pc' := 84) dX8_cell_83 rfl rfl rfl ?_
            refine am_iadd (pc' := 85) dX8_cell_84 rfl ⟨by omega, by omega⟩ ?_
            refine am_iaload (pc' := 86) dX8_cell_85 rfl (by first | assumption | exact ⟨by omega, by omega, rfl⟩) (by omega) (by omega) ?_
            refine am_i2l (pc' := 87) dX8_cell_86 rfl ?_
            refine am_retl dX8_cell_87 rfl ?_
            have h9 := c4 (by omega)
            rw [h9]
            first | exact ⟨rfl, Or.inr ⟨by omega, by rw [am_uu], by rw [if_neg (by omega)]⟩⟩ | exact ⟨rfl, Or.inr ⟨by omega, by rw [show sh_of (md_ln h k) (h 54 k) i 1 = 0 by omega], by rw [if_pos (by omega), u 56 _ (by decide)]⟩⟩ | fail
          · refine am_aload_n (pc' := 63) dX8_cell_62 rfl rfl rfl ?_
            refine am_aload_n (pc' := 64) dX8_cell_63 rfl rfl rfl ?_
            refine am_iload_n (pc' := 65) dX8_cell_64 rfl rfl rfl ?_
            refine am_iload_n (pc' := 66) dX8_cell_65 rfl rfl rfl ?_
            refine am_callVp (pc' := 69) (as := [_, _]) (ci := 7)  rfl dX8_cell_66 rfl ok_X8_noCell ml_X8_256 im_X8_noCell se_X8_noCell rfl (Nat.le_of_ble_eq_true rfl) rfl (Nat.le_of_ble_eq_true rfl) (by first | assumption | exact ⟨by omega, by omega, rfl⟩) (t8_noCell (h := am_u h 38 0 0) hM hS0 hk) ?_
            rw [eln, u 54 k (by decide)]
            refine am_callV0 (pc' := 72) (as := [_]) (ci := 7)  rfl dX8_cell_69 rfl ok_X8_failedLong ml_X8_259 im_X8_failedLong se_X8_failedLong rfl (Nat.le_of_ble_eq_true rfl) rfl (Nat.le_of_ble_eq_true rfl) (by first | assumption | exact ⟨by omega, by omega, rfl⟩) (t8_failedLong hM) (fun r_69 ρ_69 h_69 q_69 g_69 e_69 => ?_)
            obtain ⟨rfl, rfl, rfl⟩ := q_69
            refine am_goto (pc' := 87) dX8_cell_72 rfl ?_
            refine am_retl dX8_cell_87 rfl ?_
            have h9 := c4 (by omega)
            rw [h9]
            first | exact ⟨rfl, Or.inr ⟨by omega, by rw [am_uu], by rw [if_neg (by omega)]⟩⟩ | exact ⟨rfl, Or.inr ⟨by omega, by rw [show sh_of (md_ln h k) (h 54 k) i 1 = 0 by omega], by rw [if_pos (by omega), u 56 _ (by decide)]⟩⟩ | fail
        · refine am_aload_n (pc' := 48) dX8_cell_47 rfl rfl rfl ?_
          refine am_iconst (pc' := 49) dX8_cell_48 rfl rfl ?_
          refine am_callV0 (pc' := 52) (as := [_]) (ci := 7)  rfl dX8_cell_49 rfl ok_X8_failedLong ml_X8_259 im_X8_failedLong se_X8_failedLong rfl (Nat.le_of_ble_eq_true rfl) rfl (Nat.le_of_ble_eq_true rfl) (by first | assumption | exact ⟨by omega, by omega, rfl⟩) (t8_failedLong hM) (fun r_49 ρ_49 h_49 q_49 g_49 e_49 => ?_)
          obtain ⟨rfl, rfl, rfl⟩ := q_49
          refine am_retl dX8_cell_52 rfl ?_
          exact ⟨rfl, Or.inr ⟨by omega, by rw [c2 (by omega) (by omega), am_uu], by rw [c2 (by omega) (by omega)]; rfl⟩⟩
    · simp only [am_z0, am_z1, ne_eq] at c_21
      refine am_callSp (pc' := 27) (as := [])  rfl dX8_cell_24 rfl ok_X8_lost ml_X8_73 sm_X8_lost (Nat.le_of_ble_eq_true rfl) rfl (Nat.le_of_ble_eq_true rfl) (t8_lost) ?_
      refine am_retl dX8_cell_27 rfl ?_
      exact ⟨rfl, Or.inl ⟨by omega, rfl, rfl⟩⟩
