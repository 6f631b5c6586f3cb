/-! the model: texts -/
theorem t8_codeAt {ρ h : am_H} {b n : Int} (hM : am_LM ρ) (hb : 0 ≤ b ∧ b + n ≤ 240 ∧ 0 ≤ n ∧ n ≤ 60) (ha : 0 ≤ h 38 6 ∧ h 38 6 ≤ n) : am_CT mX8_codeAt 0 0 [am_R 38, am_I b, am_I n] ρ h (am_P (am_I (if h 38 6 < n then h 56 (b + h 38 6) else -9)) ρ h) := by
  have hn58 := hM.1
  have e3 := am_lm hM 38 29 56 (by decide)
  have l3 := am_lm hM 56 (-1) 240 (by decide)
  refine am_ct (ls := [some (am_R 38), some (am_I b), some (am_I n)]) ok_X8_codeAt rfl (fun _ => Nat.le_of_ble_eq_true rfl) (fun _ => rfl) (by intro v hv; simpa using hv) ?_
  refine am_aload_n (pc' := 1) dX8_codeAt_0 rfl rfl rfl ?_
  refine am_getIk (ki := 6) (pc' := 4) (k := 6) (ci := 7) rfl dX8_codeAt_1 rfl fl_X8_84 (by first | assumption | exact ⟨by omega, by omega, rfl⟩) rfl ?_
  refine am_iload_n (pc' := 5) dX8_codeAt_4 rfl rfl rfl ?_
  refine am_icmp_ge (pc' := 8) (tgt := 22) dX8_codeAt_5 rfl rfl (fun c_5 => ?_) (fun c_5 => ?_)
  · refine am_bipush (pc' := 24) dX8_codeAt_22 rfl rfl (by decide) ?_
    refine am_reti dX8_codeAt_24 rfl ?_
    first | exact ⟨by rw [if_pos (by omega)], rfl, rfl⟩ | exact ⟨by rw [if_neg (by omega)], rfl, rfl⟩ | fail
  · refine am_aload_n (pc' := 9) dX8_codeAt_8 rfl rfl rfl ?_
    refine am_getRk (ki := 29) (pc' := 12) (k := 29) (ci := 7) rfl dX8_codeAt_9 rfl fl_X8_61 (by first | assumption | exact ⟨by omega, by omega, rfl⟩) rfl (by assumption) (by omega) ?_
    refine am_iload_n (pc' := 13) dX8_codeAt_12 rfl rfl rfl ?_
    refine am_aload_n (pc' := 14) dX8_codeAt_13 rfl rfl rfl ?_
    refine am_getIk (ki := 6) (pc' := 17) (k := 6) (ci := 7) rfl dX8_codeAt_14 rfl fl_X8_84 (by first | assumption | exact ⟨by omega, by omega, rfl⟩) rfl ?_
    refine am_iadd (pc' := 18) dX8_codeAt_17 rfl ⟨by omega, by omega⟩ ?_
    refine am_iaload (pc' := 19) dX8_codeAt_18 rfl (by first | assumption | exact ⟨by omega, by omega, rfl⟩) (by omega) (by omega) ?_
    refine am_goto (pc' := 24) dX8_codeAt_19 rfl ?_
    refine am_reti dX8_codeAt_24 rfl ?_
    first | exact ⟨by rw [if_pos (by omega)], rfl, rfl⟩ | exact ⟨by rw [if_neg (by omega)], rfl, rfl⟩ | fail
