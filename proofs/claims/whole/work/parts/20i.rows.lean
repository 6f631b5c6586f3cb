/-! the model: rows -/
theorem t8_rows_l {ρ h : am_H} {N w : Int} {nx : Int → Int} {Q : am_Q} (hQ : md_Q ρ h nx N) (K : ∀ x, am_WP mX8_rows 0 0 86 [some (am_R 38), some (am_I w), some (am_I N), some (am_I (gr_stay nx N.toNat)), some (am_I (gr_outs nx N.toNat)), x] [] ρ h Q) :
    ∀ (n : Nat) (r s o : Int), (N - r).toNat < n → 0 ≤ r → r ≤ N → (0 ≤ s ∧ s ≤ r) → (0 ≤ o ∧ o ≤ r) → s = gr_stay nx r.toNat → o = gr_outs nx r.toNat → am_WP mX8_rows 0 0 42 [some (am_R 38), some (am_I w), some (am_I N), some (am_I s), some (am_I o), some (am_I r)] [] ρ h Q := by
  have hN := md_QN hQ
  obtain ⟨hM, hA, eN, h00, hin, ⟨t1, t2, t3⟩⟩ := id hQ
  have hn58 := hM.1
  have e1 := am_lm hM 38 13 45 (by decide)
  have l1 := am_lm hM 45 (-1) 7776 (by decide)
  have e2 := am_lm hM 38 17 49 (by decide)
  have l2 := am_lm hM 49 (-1) 7776 (by decide)
  intro n
  induction n with
  | zero => intro r s o hk; omega
  | succ n ih =>
    intro r s o hk h0 h9 hs ho es eo
    have n1 : gr_stay nx (r + 1).toNat = gr_stay nx r.toNat + (if nx r = r then 1 else 0) := mt_sum_next _ h0
    have n2 : gr_outs nx (r + 1).toNat = gr_outs nx r.toNat + mt_ch (gr_out nx r) := mt_sum_next _ h0
    have hov : r < N → h 49 r = mt_ch (gr_out nx r) := fun z => by
      rcases (t2 r h0 z).2 with ⟨a, b⟩ | ⟨a, b⟩
      · rw [a, mt_ch_t b]
      · rw [a, mt_ch_f b]
    have hcb := mt_ch_in (gr_out nx r)
    refine am_iload (pc' := 44) dX8_rows_42 rfl rfl ?_
    refine am_iload_n (pc' := 45) dX8_rows_44 rfl rfl rfl ?_
    refine am_icmp_ge (pc' := 48) (tgt := 86) dX8_rows_45 rfl rfl (fun c_45 => ?_) (fun c_45 => ?_)
    · rw [es, eo, show r.toNat = N.toNat by omega]; exact K _
    · have hv := hov (by omega)
      refine am_iload_n (pc' := 49) dX8_rows_48 rfl rfl rfl ?_
      refine am_aload_n (pc' := 50) dX8_rows_49 rfl rfl rfl ?_
      refine am_getRk (ki := 13) (pc' := 53) (k := 13) (ci := 7) rfl dX8_rows_50 rfl fl_X8_28 (by first | assumption | exact ⟨by omega, by omega, rfl⟩) rfl (by assumption) (by omega) ?_
      refine am_iload (pc' := 55) dX8_rows_53 rfl rfl ?_
      refine am_iaload (pc' := 56) dX8_rows_55 rfl (by first | assumption | exact ⟨by omega, by omega, rfl⟩) (by omega) (by omega) ?_
      rw [t1 r h0 (by omega)]
      refine am_iload (pc' := 58) dX8_rows_56 rfl rfl ?_
      refine am_icmp_ne (pc' := 61) (tgt := 65) dX8_rows_58 rfl rfl (fun c_58 => ?_) (fun c_58 => ?_)
      · refine am_iconst (pc' := 66) dX8_rows_65 rfl rfl ?_
        refine am_iadd (pc' := 67) dX8_rows_66 rfl ⟨by omega, by omega⟩ ?_
        refine am_istore_n (pc' := 68) (ls' := [_, _, _, _, _, _]) dX8_rows_67 rfl rfl (Nat.le_of_ble_eq_true rfl) rfl rfl ?_
        refine am_iload (pc' := 70) dX8_rows_68 rfl rfl ?_
        refine am_aload_n (pc' := 71) dX8_rows_70 rfl rfl rfl ?_
        refine am_getRk (ki := 17) (pc' := 74) (k := 17) (ci := 7) rfl dX8_rows_71 rfl fl_X8_40 (by first | assumption | exact ⟨by omega, by omega, rfl⟩) rfl (by assumption) (by omega) ?_
        refine am_iload (pc' := 76) dX8_rows_74 rfl rfl ?_
        refine am_iaload (pc' := 77) dX8_rows_76 rfl (by first | assumption | exact ⟨by omega, by omega, rfl⟩) (by omega) (by omega) ?_
        refine am_iadd (pc' := 78) dX8_rows_77 rfl ⟨by omega, by omega⟩ ?_
        refine am_istore (pc' := 80) (ls' := [_, _, _, _, _, _]) dX8_rows_78 rfl (Nat.le_of_ble_eq_true rfl) rfl rfl ?_
        refine am_iinc (pc' := 83) (ls' := [_, _, _, _, _, _]) dX8_rows_80 rfl rfl ⟨by omega, by omega⟩ (Nat.le_of_ble_eq_true rfl) rfl rfl ?_
        refine am_goto (pc' := 42) dX8_rows_83 rfl ?_
        first | exact ih _ _ _ (by omega) (by omega) (by omega) (by omega) (by omega) (by rw [n1, if_pos c_58, es]) (by rw [n2, eo, hv]) | exact ih _ _ _ (by omega) (by omega) (by omega) (by omega) (by omega) (by rw [n1, if_neg c_58, es]) (by rw [n2, eo, hv]) | fail
      · refine am_iconst (pc' := 62) dX8_rows_61 rfl rfl ?_
        refine am_goto (pc' := 66) dX8_rows_62 rfl ?_
        refine am_iadd (pc' := 67) dX8_rows_66 rfl ⟨by omega, by omega⟩ ?_
        refine am_istore_n (pc' := 68) (ls' := [_, _, _, _, _, _]) dX8_rows_67 rfl rfl (Nat.le_of_ble_eq_true rfl) rfl rfl ?_
        refine am_iload (pc' := 70) dX8_rows_68 rfl rfl ?_
        refine am_aload_n (pc' := 71) dX8_rows_70 rfl rfl rfl ?_
        refine am_getRk (ki := 17) (pc' := 74) (k := 17) (ci := 7) rfl dX8_rows_71 rfl fl_X8_40 (by first | assumption | exact ⟨by omega, by omega, rfl⟩) rfl (by assumption) (by omega) ?_
        refine am_iload (pc' := 76) dX8_rows_74 rfl rfl ?_
        refine am_iaload (pc' := 77) dX8_rows_76 rfl (by first | assumption | exact ⟨by omega, by omega, rfl⟩) (by omega) (by omega) ?_
        refine am_iadd (pc' := 78) dX8_rows_77 rfl ⟨by omega, by omega⟩ ?_
        refine am_istore (pc' := 80) (ls' := [_, _, _, _, _, _]) dX8_rows_78 rfl (Nat.le_of_ble_eq_true rfl) rfl rfl ?_
        refine am_iinc (pc' := 83) (ls' := [_, _, _, _, _, _]) dX8_rows_80 rfl rfl ⟨by omega, by omega⟩ (Nat.le_of_ble_eq_true rfl) rfl rfl ?_
        refine am_goto (pc' := 42) dX8_rows_83 rfl ?_
        first | exact ih _ _ _ (by omega) (by omega) (by omega) (by omega) (by omega) (by rw [n1, if_pos c_58, es]) (by rw [n2, eo, hv]) | exact ih _ _ _ (by omega) (by omega) (by omega) (by omega) (by omega) (by rw [n1, if_neg c_58, es]) (by rw [n2, eo, hv]) | fail
theorem t8_rows {ρ h : am_H} {w : Int} (hM : am_LM ρ) (hR : md_R h) : am_CT mX8_rows 0 0 [am_R 38, am_I w] ρ h (fun r ρ' h' => ρ' = ρ ∧ md_fr h h' ∧ ∃ v, r = some (am_I v) ∧ o_g3 (0 ≤ w ∧ w ≤ 4) (h 38 1) (o_rows (md_nx h) (md_N h) w) v) := by
  have hn58 := hM.1
  refine am_ct (ls := [some (am_R 38), some (am_I w), none, none, none, none]) ok_X8_rows rfl (fun _ => Nat.le_of_ble_eq_true rfl) (fun _ => rfl) (by intro v hv; simpa using hv) ?_
  refine am_iload_n (pc' := 1) dX8_rows_0 rfl rfl rfl ?_
  refine am_i2l (pc' := 2) dX8_rows_1 rfl ?_
  refine am_lconst0 (pc' := 3) dX8_rows_2 rfl ?_
  refine am_ldc2 (pc' := 6) (x := 4) dX8_rows_3 rfl kl_X8_220 rfl rfl ?_
  refine am_callSp (pc' := 9) (as := [_, _, _])  rfl dX8_rows_6 rfl ok_X8_in ml_X8_80 sm_X8_in (Nat.le_of_ble_eq_true rfl) rfl (Nat.le_of_ble_eq_true rfl) (t8_in) ?_
  refine am_if_ne (pc' := 12) (tgt := 15) dX8_rows_9 rfl rfl (fun c_9 => ?_) (fun c_9 => ?_)
  · simp only [am_z0, am_z1, ne_eq] at c_9
    refine am_aload_n (pc' := 16) dX8_rows_15 rfl rfl rfl ?_
    refine am_getIk (ki := 1) (pc' := 19) (k := 1) (ci := 7) rfl dX8_rows_16 rfl fl_X8_77 (by first | assumption | exact ⟨by omega, by omega, rfl⟩) rfl ?_
    refine am_if_ne (pc' := 22) (tgt := 25) dX8_rows_19 rfl rfl (fun c_19 => ?_) (fun c_19 => ?_)
    · have hP0 : h 38 1 ≠ 0 := by omega
      obtain ⟨hA, hnm, hkd⟩ := md_RA hR hP0
      refine am_aload_n (pc' := 26) dX8_rows_25 rfl rfl rfl ?_
      refine am_callV0 (pc' := 29) (as := []) (ci := 7)  rfl dX8_rows_26 rfl ok_X8_tables ml_X8_194 im_X8_tables se_X8_tables rfl (Nat.le_of_ble_eq_true rfl) rfl (Nat.le_of_ble_eq_true rfl) (by first | assumption | exact ⟨by omega, by omega, rfl⟩) (t8_tables hM hA) (fun r_26 ρ_26 h_26 q_26 g_26 e_26 => ?_)
      obtain ⟨hQ, hfr, hbr⟩ := md_go hM hR hP0 am_fr_refl q_26
      obtain ⟨rfl, rfl, _⟩ := q_26
      have hN := md_QN hQ
      have hA2 := hQ.2.1
      have eN : mt_pw (h_26 38 2) (h_26 38 1).toNat = md_N h := hQ.2.2.1.symm
      refine am_aload_n (pc' := 30) dX8_rows_29 rfl rfl rfl ?_
      refine am_callVp (pc' := 33) (as := []) (ci := 7)  rfl dX8_rows_30 rfl ok_X8_allRows ml_X8_170 im_X8_allRows se_X8_allRows rfl (Nat.le_of_ble_eq_true rfl) rfl (Nat.le_of_ble_eq_true rfl) (by first | assumption | exact ⟨by omega, by omega, rfl⟩) (t8_allRows hM hA2) ?_
      rw [eN]
      refine am_istore_n (pc' := 34) (ls' := [_, _, _, _, _, _]) dX8_rows_33 rfl rfl (Nat.le_of_ble_eq_true rfl) rfl rfl ?_
      refine am_iconst (pc' := 35) dX8_rows_34 rfl rfl ?_
      refine am_istore_n (pc' := 36) (ls' := [_, _, _, _, _, _]) dX8_rows_35 rfl rfl (Nat.le_of_ble_eq_true rfl) rfl rfl ?_
      refine am_iconst (pc' := 37) dX8_rows_36 rfl rfl ?_
      refine am_istore (pc' := 39) (ls' := [_, _, _, _, _, _]) dX8_rows_37 rfl (Nat.le_of_ble_eq_true rfl) rfl rfl ?_
      refine am_iconst (pc' := 40) dX8_rows_39 rfl rfl ?_
      refine am_istore (pc' := 42) (ls' := [_, _, _, _, _, _]) dX8_rows_40 rfl (Nat.le_of_ble_eq_true rfl) rfl rfl ?_
      refine t8_rows_l hQ (fun v => ?_) ((md_N h).toNat + 1) 0 0 0 (by omega) (by omega) (by omega) (by omega) (by omega) rfl rfl
      refine am_iload_n (pc' := 87) dX8_rows_86 rfl rfl rfl ?_
      refine am_if_ne (pc' := 90) (tgt := 94) dX8_rows_87 rfl rfl (fun c_87 => ?_) (fun c_87 => ?_)
      · refine am_iload_n (pc' := 95) dX8_rows_94 rfl rfl rfl ?_
        refine am_iconst (pc' := 96) dX8_rows_95 rfl rfl ?_
        refine am_icmp_ne (pc' := 99) (tgt := 103) dX8_rows_96 rfl rfl (fun c_96 => ?_) (fun c_96 => ?_)
        · refine am_iload_n (pc' := 104) dX8_rows_103 rfl rfl rfl ?_
          refine am_iconst (pc' := 105) dX8_rows_104 rfl rfl ?_
          refine am_icmp_ne (pc' := 108) (tgt := 115) dX8_rows_105 rfl rfl (fun c_105 => ?_) (fun c_105 => ?_)
          · refine am_iload_n (pc' := 116) dX8_rows_115 rfl rfl rfl ?_
            refine am_iconst (pc' := 117) dX8_rows_116 rfl rfl ?_
            refine am_icmp_ne (pc' := 120) (tgt := 125) dX8_rows_117 rfl rfl (fun c_117 => ?_) (fun c_117 => ?_)
            · refine am_aload_n (pc' := 126) dX8_rows_125 rfl rfl rfl ?_
              refine am_callVp (pc' := 129) (as := []) (ci := 7)  rfl dX8_rows_126 rfl ok_X8_rounds ml_X8_234 im_X8_rounds se_X8_rounds rfl (Nat.le_of_ble_eq_true rfl) rfl (Nat.le_of_ble_eq_true rfl) (by first | assumption | exact ⟨by omega, by omega, rfl⟩) (t8_rounds hQ) ?_
              refine am_reti dX8_rows_129 rfl ?_
              unfold o_g3 o_rows
              first | exact ⟨rfl, hfr, _, rfl, Or.inr (Or.inr ⟨by omega, by omega, by rw [if_pos (by omega)]⟩)⟩ | exact ⟨rfl, hfr, _, rfl, Or.inr (Or.inr ⟨by omega, by omega, by rw [if_neg (by omega), if_pos (by omega)]⟩)⟩ | exact ⟨rfl, hfr, _, rfl, Or.inr (Or.inr ⟨by omega, by omega, by rw [if_neg (by omega), if_neg (by omega), if_pos (by omega)]; exact hbr⟩)⟩ | exact ⟨rfl, hfr, _, rfl, Or.inr (Or.inr ⟨by omega, by omega, by rw [if_neg (by omega), if_neg (by omega), if_neg (by omega), if_pos (by omega)]⟩)⟩ | exact ⟨rfl, hfr, _, rfl, Or.inr (Or.inr ⟨by omega, by omega, by rw [if_neg (by omega), if_neg (by omega), if_neg (by omega), if_neg (by omega)]⟩)⟩ | fail
            · refine am_iload (pc' := 122) dX8_rows_120 rfl rfl ?_
              refine am_goto (pc' := 129) dX8_rows_122 rfl ?_
              refine am_reti dX8_rows_129 rfl ?_
              unfold o_g3 o_rows
              first | exact ⟨rfl, hfr, _, rfl, Or.inr (Or.inr ⟨by omega, by omega, by rw [if_pos (by omega)]⟩)⟩ | exact ⟨rfl, hfr, _, rfl, Or.inr (Or.inr ⟨by omega, by omega, by rw [if_neg (by omega), if_pos (by omega)]⟩)⟩ | exact ⟨rfl, hfr, _, rfl, Or.inr (Or.inr ⟨by omega, by omega, by rw [if_neg (by omega), if_neg (by omega), if_pos (by omega)]; exact hbr⟩)⟩ | exact ⟨rfl, hfr, _, rfl, Or.inr (Or.inr ⟨by omega, by omega, by rw [if_neg (by omega), if_neg (by omega), if_neg (by omega), if_pos (by omega)]⟩)⟩ | exact ⟨rfl, hfr, _, rfl, Or.inr (Or.inr ⟨by omega, by omega, by rw [if_neg (by omega), if_neg (by omega), if_neg (by omega), if_neg (by omega)]⟩)⟩ | fail
          · refine am_aload_n (pc' := 109) dX8_rows_108 rfl rfl rfl ?_
            refine am_getIk (ki := 19) (pc' := 112) (k := 19) (ci := 7) rfl dX8_rows_109 rfl fl_X8_179 (by first | assumption | exact ⟨by omega, by omega, rfl⟩) rfl ?_
            refine am_goto (pc' := 129) dX8_rows_112 rfl ?_
            refine am_reti dX8_rows_129 rfl ?_
            unfold o_g3 o_rows
            first | exact ⟨rfl, hfr, _, rfl, Or.inr (Or.inr ⟨by omega, by omega, by rw [if_pos (by omega)]⟩)⟩ | exact ⟨rfl, hfr, _, rfl, Or.inr (Or.inr ⟨by omega, by omega, by rw [if_neg (by omega), if_pos (by omega)]⟩)⟩ | exact ⟨rfl, hfr, _, rfl, Or.inr (Or.inr ⟨by omega, by omega, by rw [if_neg (by omega), if_neg (by omega), if_pos (by omega)]; exact hbr⟩)⟩ | exact ⟨rfl, hfr, _, rfl, Or.inr (Or.inr ⟨by omega, by omega, by rw [if_neg (by omega), if_neg (by omega), if_neg (by omega), if_pos (by omega)]⟩)⟩ | exact ⟨rfl, hfr, _, rfl, Or.inr (Or.inr ⟨by omega, by omega, by rw [if_neg (by omega), if_neg (by omega), if_neg (by omega), if_neg (by omega)]⟩)⟩ | fail
        · refine am_iload_n (pc' := 100) dX8_rows_99 rfl rfl rfl ?_
          refine am_goto (pc' := 129) dX8_rows_100 rfl ?_
          refine am_reti dX8_rows_129 rfl ?_
          unfold o_g3 o_rows
          first | exact ⟨rfl, hfr, _, rfl, Or.inr (Or.inr ⟨by omega, by omega, by rw [if_pos (by omega)]⟩)⟩ | exact ⟨rfl, hfr, _, rfl, Or.inr (Or.inr ⟨by omega, by omega, by rw [if_neg (by omega), if_pos (by omega)]⟩)⟩ | exact ⟨rfl, hfr, _, rfl, Or.inr (Or.inr ⟨by omega, by omega, by rw [if_neg (by omega), if_neg (by omega), if_pos (by omega)]; exact hbr⟩)⟩ | exact ⟨rfl, hfr, _, rfl, Or.inr (Or.inr ⟨by omega, by omega, by rw [if_neg (by omega), if_neg (by omega), if_neg (by omega), if_pos (by omega)]⟩)⟩ | exact ⟨rfl, hfr, _, rfl, Or.inr (Or.inr ⟨by omega, by omega, by rw [if_neg (by omega), if_neg (by omega), if_neg (by omega), if_neg (by omega)]⟩)⟩ | fail
      · refine am_iload_n (pc' := 91) dX8_rows_90 rfl rfl rfl ?_
        refine am_goto (pc' := 129) dX8_rows_91 rfl ?_
        refine am_reti dX8_rows_129 rfl ?_
        unfold o_g3 o_rows
        first | exact ⟨rfl, hfr, _, rfl, Or.inr (Or.inr ⟨by omega, by omega, by rw [if_pos (by omega)]⟩)⟩ | exact ⟨rfl, hfr, _, rfl, Or.inr (Or.inr ⟨by omega, by omega, by rw [if_neg (by omega), if_pos (by omega)]⟩)⟩ | exact ⟨rfl, hfr, _, rfl, Or.inr (Or.inr ⟨by omega, by omega, by rw [if_neg (by omega), if_neg (by omega), if_pos (by omega)]; exact hbr⟩)⟩ | exact ⟨rfl, hfr, _, rfl, Or.inr (Or.inr ⟨by omega, by omega, by rw [if_neg (by omega), if_neg (by omega), if_neg (by omega), if_pos (by omega)]⟩)⟩ | exact ⟨rfl, hfr, _, rfl, Or.inr (Or.inr ⟨by omega, by omega, by rw [if_neg (by omega), if_neg (by omega), if_neg (by omega), if_neg (by omega)]⟩)⟩ | fail
    · refine am_bipush (pc' := 24) dX8_rows_22 rfl rfl (by decide) ?_
      refine am_reti dX8_rows_24 rfl ?_
      exact ⟨rfl, md_fr_r, _, rfl, Or.inr (Or.inl ⟨by omega, by omega, rfl⟩)⟩
  · simp only [am_z0, am_z1, ne_eq] at c_9
    refine am_bipush (pc' := 14) dX8_rows_12 rfl rfl (by decide) ?_
    refine am_reti dX8_rows_14 rfl ?_
    exact ⟨rfl, md_fr_r, _, rfl, Or.inl ⟨by omega, rfl⟩⟩
