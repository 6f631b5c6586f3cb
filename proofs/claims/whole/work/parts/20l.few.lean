/-! the model: few, whole -/
theorem t8_few {ρ h : am_H} {w : Int} (hM : am_LM ρ) (hR : md_R h) : am_CT mX8_few 0 0 [am_R 38, am_I w] ρ h (fun r ρ' h' => ρ' = ρ ∧ md_fr h h' ∧ ∃ v, r = some (am_I v) ∧ o_g3 (0 ≤ w ∧ w ≤ 1) (h 38 1) (o_few (md_nx h) (md_N h) (h 38 1) (h 38 2) (md_row h) w) v) := by
  have hn58 := hM.1
  refine am_ct (ls := [some (am_R 38), some (am_I w), none, none, none, none]) ok_X8_few rfl (fun _ => Nat.le_of_ble_eq_true rfl) (fun _ => rfl) (by intro v hv; simpa using hv) ?_
  refine am_iload_n (pc' := 1) dX8_few_0 rfl rfl rfl ?_
  refine am_i2l (pc' := 2) dX8_few_1 rfl ?_
  refine am_lconst0 (pc' := 3) dX8_few_2 rfl ?_
  refine am_lconst1 (pc' := 4) dX8_few_3 rfl ?_
  refine am_callSp (pc' := 7) (as := [_, _, _])  rfl dX8_few_4 rfl ok_X8_in ml_X8_80 sm_X8_in (Nat.le_of_ble_eq_true rfl) rfl (Nat.le_of_ble_eq_true rfl) (t8_in) ?_
  refine am_if_ne (pc' := 10) (tgt := 13) dX8_few_7 rfl rfl (fun c_7 => ?_) (fun c_7 => ?_)
  · simp only [am_z0, am_z1, ne_eq] at c_7
    refine am_aload_n (pc' := 14) dX8_few_13 rfl rfl rfl ?_
    refine am_getIk (ki := 1) (pc' := 17) (k := 1) (ci := 7) rfl dX8_few_14 rfl fl_X8_77 (by first | assumption | exact ⟨by omega, by omega, rfl⟩) rfl ?_
    refine am_if_ne (pc' := 20) (tgt := 23) dX8_few_17 rfl rfl (fun c_17 => ?_) (fun c_17 => ?_)
    · have hP0 : h 38 1 ≠ 0 := by omega
      obtain ⟨hA, hnm, hkd⟩ := md_RA hR hP0
      have hww : 0 ≤ w ∧ w ≤ 1 := by omega
      have hdg : mt_eq (h 38 1) (h 40) (dg (h 38 1) (h 38 2) (md_row h)) := fun p p0 p1 => (dg_cd hA.2.1 (by omega) hnm p0 p1).symm
      refine am_aload_n (pc' := 24) dX8_few_23 rfl rfl rfl ?_
      refine am_callV0 (pc' := 27) (as := []) (ci := 7)  rfl dX8_few_24 rfl ok_X8_tables ml_X8_194 im_X8_tables se_X8_tables rfl (Nat.le_of_ble_eq_true rfl) rfl (Nat.le_of_ble_eq_true rfl) (by first | assumption | exact ⟨by omega, by omega, rfl⟩) (t8_tables hM hA) (fun r_24 ρ_24 h_24 q_24 g_24 e_24 => ?_)
      obtain ⟨hQ, hfr, hbr⟩ := md_go hM hR hP0 am_fr_refl q_24
      obtain ⟨rfl, rfl, _⟩ := q_24
      have hN := md_QN hQ
      have f1 : h_24 38 1 = h 38 1 := hfr.2 1 (by omega)
      have f2 : h_24 38 2 = h 38 2 := hfr.2 2 (by omega)
      have f40 : h_24 40 = h 40 := funext fun k => hfr.1 40 k (by omega) (by omega) (by omega)
      refine am_aload_n (pc' := 28) dX8_few_27 rfl rfl rfl ?_
      refine am_iconst (pc' := 29) dX8_few_28 rfl rfl ?_
      refine am_callV0 (pc' := 32) (as := [_]) (ci := 7)  rfl dX8_few_29 rfl ok_X8_unlikeNow ml_X8_237 im_X8_unlikeNow se_X8_unlikeNow rfl (Nat.le_of_ble_eq_true rfl) rfl (Nat.le_of_ble_eq_true rfl) (by first | assumption | exact ⟨by omega, by omega, rfl⟩) (t8_unlikeNow hM hQ.2.1 (by omega)) (fun r_29 ρ_29 h_29 q_29 g_29 e_29 => ?_)
      obtain ⟨rfl, q1, T, rfl, hT⟩ := q_29
      rw [f1, f2, f40] at hT
      have hTb : 0 ≤ T ∧ T < 32 := ⟨hT.1, hT.2.1⟩
      have hf2 : am_fr [43, 44] h_24 h_29 := am_fr_sub q1 (by intro x hx; simp at hx ⊢; omega)
      have hI : ((∃ c, 0 ≤ c ∧ c < md_N h ∧ gr_out (md_nx h) c ∧ ul_is (h 38 1) (h 40) (dg (h 38 1) (h 38 2) c) T) ∧ ∀ d U, 0 ≤ d → d < 1 → gr_out (md_nx h) d → ul_is (h 38 1) (h 40) (dg (h 38 1) (h 38 2) d) U → ¬ fw_b U T) := ⟨⟨0, by omega, by omega, ⟨0, rfl⟩, hT⟩, fun d U d0 d1 d2 d3 => by
        have e0 : d = 0 := by omega
        rw [e0] at d3
        rw [ul_uniq d3 hT]
        unfold fw_b
        omega⟩
      refine am_istore_n (pc' := 33) (ls' := [_, _, _, _, _, _]) dX8_few_32 rfl rfl (Nat.le_of_ble_eq_true rfl) rfl rfl ?_
      refine am_iconst (pc' := 34) dX8_few_33 rfl rfl ?_
      refine am_istore_n (pc' := 35) (ls' := [_, _, _, _, _, _]) dX8_few_34 rfl rfl (Nat.le_of_ble_eq_true rfl) rfl rfl ?_
      refine t8_few_l (h0 := h) hQ hfr f1 f2 f40 (fun S r v v' h1 hf hS hfw => ?_) ((md_N h).toNat + 1) 1 T _ _ _ (by omega) (by omega) (by omega) hTb hf2 hI
      have hfin : ∀ x, x = (if w = 0 then bct S else S) → o_g3 (0 ≤ w ∧ w ≤ 1) (h 38 1) (o_few (md_nx h) (md_N h) (h 38 1) (h 38 2) (md_row h) w) x := fun x hx => Or.inr (Or.inr ⟨hww, hP0, S, fw_eq hdg hfw, hS, hx⟩)
      have hfrr := md_fr_t hfr (md_fr_43 hf)
      clear hI hfw
      refine am_iload_n (pc' := 116) dX8_few_115 rfl rfl rfl ?_
      refine am_if_ne (pc' := 119) (tgt := 126) dX8_few_116 rfl rfl (fun c_116 => ?_) (fun c_116 => ?_)
      · refine am_iload_n (pc' := 127) dX8_few_126 rfl rfl rfl ?_
        refine am_reti dX8_few_127 rfl ?_
        first | exact ⟨rfl, hfrr, _, rfl, hfin _ (by rw [if_pos (by omega)])⟩ | exact ⟨rfl, hfrr, _, rfl, hfin _ (by rw [if_neg (by omega)])⟩ | fail
      · refine am_iload_n (pc' := 120) dX8_few_119 rfl rfl rfl ?_
        refine am_callSp (pc' := 123) (as := [_])  rfl dX8_few_120 rfl ok_X8_bits ml_X8_240 sm_X8_bits (Nat.le_of_ble_eq_true rfl) rfl (Nat.le_of_ble_eq_true rfl) (t8_bits hS) ?_
        refine am_goto (pc' := 127) dX8_few_123 rfl ?_
        refine am_reti dX8_few_127 rfl ?_
        first | exact ⟨rfl, hfrr, _, rfl, hfin _ (by rw [if_pos (by omega)])⟩ | exact ⟨rfl, hfrr, _, rfl, hfin _ (by rw [if_neg (by omega)])⟩ | fail
    · refine am_bipush (pc' := 22) dX8_few_20 rfl rfl (by decide) ?_
      refine am_reti dX8_few_22 rfl ?_
      exact ⟨rfl, md_fr_r, _, rfl, Or.inr (Or.inl ⟨by omega, by omega, rfl⟩)⟩
  · simp only [am_z0, am_z1, ne_eq] at c_7
    refine am_bipush (pc' := 12) dX8_few_10 rfl rfl (by decide) ?_
    refine am_reti dX8_few_12 rfl ?_
    exact ⟨rfl, md_fr_r, _, rfl, Or.inl ⟨by omega, rfl⟩⟩
