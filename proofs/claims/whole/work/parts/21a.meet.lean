/-! the model: meet -/
theorem t8_meet_2 {ρ h : am_H} {N a b k l i r : Int} {nx : Int → Int} {Q : am_Q} (hQ : md_Q ρ h nx N) (ha : 0 ≤ a ∧ a < N) (hb : 0 ≤ b ∧ b < N) (hq : ∀ v, gr_mt nx a b v → Q (some (am_I v)) ρ (am_u h 38 0 0)) :
    ∀ (n : Nat) (s : Int), (7777 - s).toNat < n → 0 ≤ s → s ≤ 7777 → (∀ j : Nat, (j : Int) < s → gi nx j a ≠ gi nx j b) → am_WP mX8_meet 0 0 154 [some (am_R 38), some (am_I k), some (am_I l), some (am_I i), some (am_I r), some (am_I (gi nx s.toNat b)), some (am_I (gi nx s.toNat a)), some (am_I s)] [] ρ h Q := by
  have hN := md_QN hQ
  obtain ⟨hM, hA, eN, h00, hin, ⟨t1, t2, t3⟩⟩ := id hQ
  have hn58 := hM.1
  have e1 := am_lm hM 38 13 45 (by decide)
  have l1 := am_lm hM 45 (-1) 7776 (by decide)
  have key : ∀ c, 0 ≤ c → c < N → onc nx (gi nx 7776 c) := fun c z0 z1 => by
    have y1 := (t2 c z0 z1).1
    have y2 := gr_tl_lt hin z0 z1 y1
    have y3 := onc_gi y1.2.1 (7776 - (h 48 c).toNat)
    have y0 := y1.1
    rw [← gi_add, show 7776 - (h 48 c).toNat + (h 48 c).toNat = 7776 by omega] at y3
    exact y3
  have far : (∀ j : Nat, (j : Int) < 7777 → gi nx j a ≠ gi nx j b) → gr_mt nx a b (-9) := fun z => Or.inr ⟨rfl, gr_apart (key a ha.1 ha.2) (key b hb.1 hb.2) (fun j hj => z j (by omega))⟩
  intro n
  induction n with
  | zero => intro s hk; omega
  | succ n ih =>
    intro s hk h0 h1 hm
    have ga := gi_in hin ha.1 ha.2 s.toNat
    have gb := gi_in hin hb.1 hb.2 s.toNat
    have ea : nx (gi nx s.toNat a) = gi nx (s + 1).toNat a := by rw [show (s + 1).toNat = s.toNat + 1 by omega]; rfl
    have eb : nx (gi nx s.toNat b) = gi nx (s + 1).toNat b := by rw [show (s + 1).toNat = s.toNat + 1 by omega]; rfl
    have K193 : (gi nx s.toNat a = gi nx s.toNat b ∨ s = 7777) → am_WP mX8_meet 0 0 193 [some (am_R 38), some (am_I k), some (am_I l), some (am_I i), some (am_I r), some (am_I (gi nx s.toNat b)), some (am_I (gi nx s.toNat a)), some (am_I s)] [] ρ h Q := by
      intro z
      refine am_aload_n (pc' := 194) dX8_meet_193 rfl rfl rfl ?_
      refine am_iload (pc' := 196) dX8_meet_194 rfl rfl ?_
      refine am_iload (pc' := 198) dX8_meet_196 rfl rfl ?_
      refine am_icmp_ne (pc' := 201) (tgt := 206) dX8_meet_198 rfl rfl (fun c_198 => ?_) (fun c_198 => ?_)
      · refine am_bipush (pc' := 208) dX8_meet_206 rfl rfl (by decide) ?_
        refine am_callV0 (pc' := 211) (as := [_]) (ci := 7)  rfl dX8_meet_208 rfl ok_X8_refused ml_X8_117 im_X8_refused se_X8_refused rfl (Nat.le_of_ble_eq_true rfl) rfl (Nat.le_of_ble_eq_true rfl) (by first | assumption | exact ⟨by omega, by omega, rfl⟩) (t8_refused hM) (fun r_208 ρ_208 h_208 q_208 g_208 e_208 => ?_)
        obtain ⟨rfl, rfl, rfl⟩ := q_208
        refine am_reti dX8_meet_211 rfl ?_
        first | exact hq _ (far (fun j hj => hm j (by omega))) | exact hq _ (Or.inl ⟨h0, c_198, hm⟩) | fail
      · refine am_iload (pc' := 203) dX8_meet_201 rfl rfl ?_
        refine am_goto (pc' := 208) dX8_meet_203 rfl ?_
        refine am_callV0 (pc' := 211) (as := [_]) (ci := 7)  rfl dX8_meet_208 rfl ok_X8_refused ml_X8_117 im_X8_refused se_X8_refused rfl (Nat.le_of_ble_eq_true rfl) rfl (Nat.le_of_ble_eq_true rfl) (by first | assumption | exact ⟨by omega, by omega, rfl⟩) (t8_refused hM) (fun r_208 ρ_208 h_208 q_208 g_208 e_208 => ?_)
        obtain ⟨rfl, rfl, rfl⟩ := q_208
        refine am_reti dX8_meet_211 rfl ?_
        first | exact hq _ (far (fun j hj => hm j (by omega))) | exact hq _ (Or.inl ⟨h0, c_198, hm⟩) | fail
    refine am_iload (pc' := 156) dX8_meet_154 rfl rfl ?_
    refine am_sipush (pc' := 159) dX8_meet_156 rfl rfl (by decide) ?_
    refine am_icmp_gt (pc' := 162) (tgt := 193) dX8_meet_159 rfl rfl (fun c_159 => ?_) (fun c_159 => ?_)
    · exact K193 (by omega)
    · refine am_iload (pc' := 164) dX8_meet_162 rfl rfl ?_
      refine am_iload (pc' := 166) dX8_meet_164 rfl rfl ?_
      refine am_icmp_eq (pc' := 169) (tgt := 193) dX8_meet_166 rfl rfl (fun c_166 => ?_) (fun c_166 => ?_)
      · exact K193 (by omega)
      · refine am_aload_n (pc' := 170) dX8_meet_169 rfl rfl rfl ?_
        refine am_getRk (ki := 13) (pc' := 173) (k := 13) (ci := 7) rfl dX8_meet_170 rfl fl_X8_28 (by first | assumption | exact ⟨by omega, by omega, rfl⟩) rfl (by assumption) (by omega) ?_
        refine am_iload (pc' := 175) dX8_meet_173 rfl rfl ?_
        refine am_iaload (pc' := 176) dX8_meet_175 rfl (by first | assumption | exact ⟨by omega, by omega, rfl⟩) (by omega) (by omega) ?_
        rw [t1 _ ga.1 ga.2, ea]
        refine am_istore (pc' := 178) (ls' := [_, _, _, _, _, _, _, _]) dX8_meet_176 rfl (Nat.le_of_ble_eq_true rfl) rfl rfl ?_
        refine am_aload_n (pc' := 179) dX8_meet_178 rfl rfl rfl ?_
        refine am_getRk (ki := 13) (pc' := 182) (k := 13) (ci := 7) rfl dX8_meet_179 rfl fl_X8_28 (by first | assumption | exact ⟨by omega, by omega, rfl⟩) rfl (by assumption) (by omega) ?_
        refine am_iload (pc' := 184) dX8_meet_182 rfl rfl ?_
        refine am_iaload (pc' := 185) dX8_meet_184 rfl (by first | assumption | exact ⟨by omega, by omega, rfl⟩) (by omega) (by omega) ?_
        rw [t1 _ gb.1 gb.2, eb]
        refine am_istore (pc' := 187) (ls' := [_, _, _, _, _, _, _, _]) dX8_meet_185 rfl (Nat.le_of_ble_eq_true rfl) rfl rfl ?_
        refine am_iinc (pc' := 190) (ls' := [_, _, _, _, _, _, _, _]) dX8_meet_187 rfl rfl ⟨by omega, by omega⟩ (Nat.le_of_ble_eq_true rfl) rfl rfl ?_
        refine am_goto (pc' := 154) dX8_meet_190 rfl ?_
        refine ih _ (by omega) (by omega) (by omega) (fun j hj => ?_)
        by_cases z : (j : Int) < s
        · exact hm j z
        · rw [show j = s.toNat by omega]; exact c_166
theorem t8_meet_1 {ρ h : am_H} {k l i : Int} {Q : am_Q} (hM : am_LM ρ) (hR : md_R h) (hP0 : h 38 1 ≠ 0) (hk : 0 ≤ k ∧ k < 4) (hi : 0 ≤ i ∧ i + h 38 1 ≤ 60) (hF : ¬ mt_ok (h 38 1) (h 38 2) (md_c h k i) → Q (some (am_I (-2))) ρ (am_u h 38 0 0)) (hq : ∀ v h', mt_ok (h 38 1) (h 38 2) (md_c h k i) → md_frF 0 h h' → gr_mt (md_nx h) (md_row h) (mt_cd (h 38 2) (md_c h k i) (h 38 1).toNat) v → Q (some (am_I v)) ρ h') :
    ∀ (n : Nat) (p o : Int), (h 38 1 - p).toNat < n → 0 ≤ p → p ≤ h 38 1 → (∀ q, 0 ≤ q → q < p → 0 ≤ md_c h k i q ∧ md_c h k i q < h 38 2) → o = mt_cd (h 38 2) (md_c h k i) p.toNat → am_WP mX8_meet 0 0 74 [some (am_R 38), some (am_I k), some (am_I l), some (am_I i), some (am_I 0), some (am_I o), some (am_I p), none] [] ρ h Q := by
  have hn58 := hM.1
  obtain ⟨hA, hnm, hkd⟩ := md_RA hR hP0
  obtain ⟨a1, a2⟩ := id hA
  have hrow : 0 ≤ md_row h ∧ md_row h < md_N h := md_row_in hA hnm
  have e1 := am_lm hM 38 29 56 (by decide)
  have l1 := am_lm hM 56 (-1) 240 (by decide)
  intro n
  induction n with
  | zero => intro p o hk; omega
  | succ n ih =>
    intro p o hn p0 p9 hr ho
    have b1 := mt_cd_in (B := h 38 2) (f := md_c h k i) (n := p.toNat) a2.1 (fun q q0 q1 => hr q q0 (by omega))
    have b2 := mt_pw_7776 a2.1 a2.2 p.toNat (by omega)
    rw [← ho] at b1
    have b3 : 0 ≤ h 38 2 * o := Int.mul_nonneg (by omega) b1.1
    have b4 : h 38 2 * o ≤ 6 * 7776 := Int.mul_le_mul a2.2 (by omega) b1.1 (by omega)
    refine am_iload (pc' := 76) dX8_meet_74 rfl rfl ?_
    refine am_aload_n (pc' := 77) dX8_meet_76 rfl rfl rfl ?_
    refine am_getIk (ki := 1) (pc' := 80) (k := 1) (ci := 7) rfl dX8_meet_77 rfl fl_X8_77 (by first | assumption | exact ⟨by omega, by omega, rfl⟩) rfl ?_
    refine am_icmp_ge (pc' := 83) (tgt := 141) dX8_meet_80 rfl rfl (fun c_80 => ?_) (fun c_80 => ?_)
    · have ep : p = h 38 1 := by omega
      refine am_aload_n (pc' := 142) dX8_meet_141 rfl rfl rfl ?_
      refine am_callV0 (pc' := 145) (as := []) (ci := 7)  rfl dX8_meet_142 rfl ok_X8_rowNow ml_X8_191 im_X8_rowNow se_X8_rowNow rfl (Nat.le_of_ble_eq_true rfl) rfl (Nat.le_of_ble_eq_true rfl) (by first | assumption | exact ⟨by omega, by omega, rfl⟩) (t8_rowNow hM hA hnm) (fun r_142 ρ_142 h_142 q_142 g_142 e_142 => ?_)
      obtain ⟨rfl, rfl, q1⟩ := q_142
      have g : ∀ k, h_142 38 k = h 38 k := fun k => q1 38 k (by simp <;> omega)
      change am_WP _ _ _ _ _ [am_I (md_row h)] _ _ _
      refine am_istore (pc' := 147) (ls' := [_, _, _, _, _, _, _, _]) dX8_meet_145 rfl (Nat.le_of_ble_eq_true rfl) rfl rfl ?_
      refine am_aload_n (pc' := 148) dX8_meet_147 rfl rfl rfl ?_
      refine am_callV0 (pc' := 151) (as := []) (ci := 7)  rfl dX8_meet_148 rfl ok_X8_tables ml_X8_194 im_X8_tables se_X8_tables rfl (Nat.le_of_ble_eq_true rfl) rfl (Nat.le_of_ble_eq_true rfl) (by first | assumption | exact ⟨by omega, by omega, rfl⟩) (t8_tables hM (by unfold md_A; rw [g, g]; exact hA)) (fun r_148 ρ_148 h_148 q_148 g_148 e_148 => ?_)
      obtain ⟨hQ, hfr, hbr⟩ := md_go hM hR hP0 q1 q_148
      obtain ⟨rfl, rfl, _⟩ := q_148
      rw [ep] at ho hr b1
      refine am_iconst (pc' := 152) dX8_meet_151 rfl rfl ?_
      refine am_istore (pc' := 154) (ls' := [_, _, _, _, _, _, _, _]) dX8_meet_152 rfl (Nat.le_of_ble_eq_true rfl) rfl rfl ?_
      refine t8_meet_2 (a := md_row h) (b := o) hQ hrow b1 (fun v hv => hq v _ hr ⟨fun x j z1 z2 z3 => ?_, fun q q0 q1 => ?_, fun j z => ?_, am_u_s _ _ _ _⟩ (by rw [← ho]; exact hv)) 7778 0 (by decide) (by decide) (by decide) (fun j hj => by omega)
      · rw [am_u_n (by omega)]; exact hfr.1 x j z1 (by omega) z3
      · rw [am_u_n (by omega)]; exact hfr.1 40 q (by omega) (by omega) (by omega)
      · rw [am_u_n (by omega)]; exact hfr.2 j (by omega)
    · refine am_aload_n (pc' := 84) dX8_meet_83 rfl rfl rfl ?_
      refine am_aload_n (pc' := 85) dX8_meet_84 rfl rfl rfl ?_
      refine am_getRk (ki := 29) (pc' := 88) (k := 29) (ci := 7) rfl dX8_meet_85 rfl fl_X8_61 (by first | assumption | exact ⟨by omega, by omega, rfl⟩) rfl (by assumption) (by omega) ?_
      refine am_bipush (pc' := 90) dX8_meet_88 rfl rfl (by decide) ?_
      refine am_iload_n (pc' := 91) dX8_meet_90 rfl rfl rfl ?_
      refine am_imul (pc' := 92) dX8_meet_91 rfl ⟨by omega, by omega⟩ ?_
      refine am_iload_n (pc' := 93) dX8_meet_92 rfl rfl rfl ?_
      refine am_iadd (pc' := 94) dX8_meet_93 rfl ⟨by omega, by omega⟩ ?_
      refine am_iload (pc' := 96) dX8_meet_94 rfl rfl ?_
      refine am_iadd (pc' := 97) dX8_meet_96 rfl ⟨by omega, by omega⟩ ?_
      refine am_iaload (pc' := 98) dX8_meet_97 rfl (by first | assumption | exact ⟨by omega, by omega, rfl⟩) (by omega) (by omega) ?_
      refine am_callVp (pc' := 101) (as := [_]) (ci := 7)  rfl dX8_meet_98 rfl ok_X8_isNumber ml_X8_152 im_X8_isNumber se_X8_isNumber rfl (Nat.le_of_ble_eq_true rfl) rfl (Nat.le_of_ble_eq_true rfl) (by first | assumption | exact ⟨by omega, by omega, rfl⟩) (t8_isNumber hM (by omega)) ?_
      refine am_if_ne (pc' := 104) (tgt := 111) dX8_meet_101 rfl rfl (fun c_101 => ?_) (fun c_101 => ?_)
      · simp only [am_z0, am_z1, ne_eq] at c_101
        refine am_aload_n (pc' := 112) dX8_meet_111 rfl rfl rfl ?_
        refine am_getIk (ki := 2) (pc' := 115) (k := 2) (ci := 7) rfl dX8_meet_112 rfl fl_X8_127 (by first | assumption | exact ⟨by omega, by omega, rfl⟩) rfl ?_
        refine am_iload (pc' := 117) dX8_meet_115 rfl rfl ?_
        refine am_imul (pc' := 118) dX8_meet_117 rfl ⟨by omega, by omega⟩ ?_
        refine am_aload_n (pc' := 119) dX8_meet_118 rfl rfl rfl ?_
        refine am_getRk (ki := 29) (pc' := 122) (k := 29) (ci := 7) rfl dX8_meet_119 rfl fl_X8_61 (by first | assumption | exact ⟨by omega, by omega, rfl⟩) rfl (by assumption) (by omega) ?_
        refine am_bipush (pc' := 124) dX8_meet_122 rfl rfl (by decide) ?_
        refine am_iload_n (pc' := 125) dX8_meet_124 rfl rfl rfl ?_
        refine am_imul (pc' := 126) dX8_meet_125 rfl ⟨by omega, by omega⟩ ?_
        refine am_iload_n (pc' := 127) dX8_meet_126 rfl rfl rfl ?_
        refine am_iadd (pc' := 128) dX8_meet_127 rfl ⟨by omega, by omega⟩ ?_
        refine am_iload (pc' := 130) dX8_meet_128 rfl rfl ?_
        refine am_iadd (pc' := 131) dX8_meet_130 rfl ⟨by omega, by omega⟩ ?_
        refine am_iaload (pc' := 132) dX8_meet_131 rfl (by first | assumption | exact ⟨by omega, by omega, rfl⟩) (by omega) (by omega) ?_
        refine am_iadd (pc' := 133) dX8_meet_132 rfl ⟨by omega, by omega⟩ ?_
        refine am_istore (pc' := 135) (ls' := [_, _, _, _, _, _, _, _]) dX8_meet_133 rfl (Nat.le_of_ble_eq_true rfl) rfl rfl ?_
        refine am_iinc (pc' := 138) (ls' := [_, _, _, _, _, _, _, _]) dX8_meet_135 rfl rfl ⟨by omega, by omega⟩ (Nat.le_of_ble_eq_true rfl) rfl rfl ?_
        refine am_goto (pc' := 74) dX8_meet_138 rfl ?_
        exact ih _ _ (by omega) (by omega) (by omega) (am_upto hr c_101) (by rw [mt_cd_next _ _ p0, ho, Int.mul_comm]; rfl)
      · simp only [am_z0, am_z1, ne_eq] at c_101
        refine am_aload_n (pc' := 105) dX8_meet_104 rfl rfl rfl ?_
        refine am_bipush (pc' := 107) dX8_meet_105 rfl rfl (by decide) ?_
        refine am_callV0 (pc' := 110) (as := [_]) (ci := 7)  rfl dX8_meet_107 rfl ok_X8_refused ml_X8_117 im_X8_refused se_X8_refused rfl (Nat.le_of_ble_eq_true rfl) rfl (Nat.le_of_ble_eq_true rfl) (by first | assumption | exact ⟨by omega, by omega, rfl⟩) (t8_refused hM) (fun r_107 ρ_107 h_107 q_107 g_107 e_107 => ?_)
        obtain ⟨rfl, rfl, rfl⟩ := q_107
        refine am_reti dX8_meet_110 rfl ?_
        exact hF (fun z => c_101 (z p p0 (by omega)))
theorem t8_meet {ρ h : am_H} {k l i : Int} (hM : am_LM ρ) (hR : md_R h) (hS : md_S h) : am_CT mX8_meet 0 0 [am_R 38, am_I k, am_I l, am_I i] ρ h (fun r ρ' h' => ρ' = ρ ∧ ∃ v f, r = some (am_I v) ∧ md_frF f h h' ∧ o_meet (h 38 1) (h 38 2) (md_nx h) (md_row h) k l (md_fl h k l i (h 38 1)) (md_c h k i) v f) := by
  have hn58 := hM.1
  have hP5 := (md_P5 hR).1
  refine am_ct (ls := [some (am_R 38), some (am_I k), some (am_I l), some (am_I i), none, none, none, none]) ok_X8_meet rfl (fun _ => Nat.le_of_ble_eq_true rfl) (fun _ => rfl) (by intro v hv; simpa using hv) ?_
  refine am_WPol (fun ol => ?_)
  have oi : am_okI i := ol (am_I i) (by simp)
  clear ol
  unfold am_okI at oi
  refine am_aload_n (pc' := 1) dX8_meet_0 rfl rfl rfl ?_
  refine am_getIk (ki := 1) (pc' := 4) (k := 1) (ci := 7) rfl dX8_meet_1 rfl fl_X8_77 (by first | assumption | exact ⟨by omega, by omega, rfl⟩) rfl ?_
  refine am_if_ne (pc' := 7) (tgt := 14) dX8_meet_4 rfl rfl (fun c_4 => ?_) (fun c_4 => ?_)
  · refine am_iload_n (pc' := 15) dX8_meet_14 rfl rfl rfl ?_
    refine am_callSp (pc' := 18) (as := [_])  rfl dX8_meet_15 rfl ok_X8_noSheet ml_X8_113 sm_X8_noSheet (Nat.le_of_ble_eq_true rfl) rfl (Nat.le_of_ble_eq_true rfl) (t8_noSheet) ?_
    refine am_if_eq (pc' := 21) (tgt := 27) dX8_meet_18 rfl rfl (fun c_18 => ?_) (fun c_18 => ?_)
    · simp only [am_z0, am_z1, ne_eq] at c_18
      refine am_iload_n (pc' := 28) dX8_meet_27 rfl rfl rfl ?_
      refine am_i2l (pc' := 29) dX8_meet_28 rfl ?_
      refine am_lconst0 (pc' := 30) dX8_meet_29 rfl ?_
      refine am_ldc2 (pc' := 33) (x := 2) dX8_meet_30 rfl kl_X8_97 rfl rfl ?_
      refine am_callSp (pc' := 36) (as := [_, _, _])  rfl dX8_meet_33 rfl ok_X8_in ml_X8_80 sm_X8_in (Nat.le_of_ble_eq_true rfl) rfl (Nat.le_of_ble_eq_true rfl) (t8_in) ?_
      refine am_if_ne (pc' := 39) (tgt := 46) dX8_meet_36 rfl rfl (fun c_36 => ?_) (fun c_36 => ?_)
      · simp only [am_z0, am_z1, ne_eq] at c_36
        have hk : 0 ≤ k ∧ k < 4 := by omega
        have hl : 0 ≤ l ∧ l < 3 := by omega
        have hs := hS k hk.1 hk.2
        have hb := sh_asb (md_ln h k) (h 54 k) l i (h 38 1)
        refine am_aload_n (pc' := 47) dX8_meet_46 rfl rfl rfl ?_
        refine am_iload_n (pc' := 48) dX8_meet_47 rfl rfl rfl ?_
        refine am_iload_n (pc' := 49) dX8_meet_48 rfl rfl rfl ?_
        refine am_iload_n (pc' := 50) dX8_meet_49 rfl rfl rfl ?_
        refine am_aload_n (pc' := 51) dX8_meet_50 rfl rfl rfl ?_
        refine am_getIk (ki := 1) (pc' := 54) (k := 1) (ci := 7) rfl dX8_meet_51 rfl fl_X8_77 (by first | assumption | exact ⟨by omega, by omega, rfl⟩) rfl ?_
        refine am_i2l (pc' := 55) dX8_meet_54 rfl ?_
        refine am_callV0 (pc' := 58) (as := [_, _, _, _]) (ci := 7)  rfl dX8_meet_55 rfl ok_X8_cellsBarred ml_X8_120 im_X8_cellsBarred se_X8_cellsBarred rfl (Nat.le_of_ble_eq_true rfl) rfl (Nat.le_of_ble_eq_true rfl) (by first | assumption | exact ⟨by omega, by omega, rfl⟩) (t8_cellsBarred hM hS hk (by omega) (by omega)) (fun r_55 ρ_55 h_55 q_55 g_55 e_55 => ?_)
        obtain ⟨rfl, w2⟩ := q_55
        rcases w2 with ⟨w1, rfl, rfl⟩ | ⟨w1, rfl, rfl⟩
        · refine am_istore (pc' := 60) (ls' := [_, _, _, _, _, _, _, _]) dX8_meet_58 rfl (Nat.le_of_ble_eq_true rfl) rfl rfl ?_
          refine am_iload (pc' := 62) dX8_meet_60 rfl rfl ?_
          refine am_if_ge (pc' := 65) (tgt := 68) dX8_meet_62 rfl rfl (fun c_62 => ?_) (fun c_62 => ?_)
          · refine am_iconst (pc' := 69) dX8_meet_68 rfl rfl ?_
            refine am_istore (pc' := 71) (ls' := [_, _, _, _, _, _, _, _]) dX8_meet_69 rfl (Nat.le_of_ble_eq_true rfl) rfl rfl ?_
            refine am_iconst (pc' := 72) dX8_meet_71 rfl rfl ?_
            refine am_istore (pc' := 74) (ls' := [_, _, _, _, _, _, _, _]) dX8_meet_72 rfl (Nat.le_of_ble_eq_true rfl) rfl rfl ?_
            first | (exfalso; omega) | exact t8_meet_1 hM hR (by omega) hk (by have hz := sh_as0 w1; omega) (fun z => ⟨rfl, _, 0, rfl, md_frF_u, Or.inr (Or.inr (Or.inr (Or.inr (Or.inl ⟨by omega, hk, hl, w1, z, rfl, rfl⟩))))⟩) (fun v h' z1 z2 z3 => ⟨rfl, v, 0, rfl, z2, Or.inr (Or.inr (Or.inr (Or.inr (Or.inr ⟨by omega, hk, hl, w1, z1, rfl, z3⟩))))⟩) 6 0 0 (by omega) (by omega) (by omega) (fun q q0 q1 => by omega) rfl | fail
          · refine am_iload (pc' := 67) dX8_meet_65 rfl rfl ?_
            refine am_reti dX8_meet_67 rfl ?_
            first | (exfalso; omega) | exact ⟨rfl, _, _, rfl, md_frF_u, Or.inr (Or.inr (Or.inr (Or.inl ⟨by omega, hk, hl, w1, rfl, rfl⟩)))⟩ | fail
        · refine am_istore (pc' := 60) (ls' := [_, _, _, _, _, _, _, _]) dX8_meet_58 rfl (Nat.le_of_ble_eq_true rfl) rfl rfl ?_
          refine am_iload (pc' := 62) dX8_meet_60 rfl rfl ?_
          refine am_if_ge (pc' := 65) (tgt := 68) dX8_meet_62 rfl rfl (fun c_62 => ?_) (fun c_62 => ?_)
          · refine am_iconst (pc' := 69) dX8_meet_68 rfl rfl ?_
            refine am_istore (pc' := 71) (ls' := [_, _, _, _, _, _, _, _]) dX8_meet_69 rfl (Nat.le_of_ble_eq_true rfl) rfl rfl ?_
            refine am_iconst (pc' := 72) dX8_meet_71 rfl rfl ?_
            refine am_istore (pc' := 74) (ls' := [_, _, _, _, _, _, _, _]) dX8_meet_72 rfl (Nat.le_of_ble_eq_true rfl) rfl rfl ?_
            first | (exfalso; omega) | exact t8_meet_1 hM hR (by omega) hk (by have hz := sh_as0 w1; omega) (fun z => ⟨rfl, _, 0, rfl, md_frF_u, Or.inr (Or.inr (Or.inr (Or.inr (Or.inl ⟨by omega, hk, hl, w1, z, rfl, rfl⟩))))⟩) (fun v h' z1 z2 z3 => ⟨rfl, v, 0, rfl, z2, Or.inr (Or.inr (Or.inr (Or.inr (Or.inr ⟨by omega, hk, hl, w1, z1, rfl, z3⟩))))⟩) 6 0 0 (by omega) (by omega) (by omega) (fun q q0 q1 => by omega) rfl | fail
          · refine am_iload (pc' := 67) dX8_meet_65 rfl rfl ?_
            refine am_reti dX8_meet_67 rfl ?_
            first | (exfalso; omega) | exact ⟨rfl, _, _, rfl, md_frF_u, Or.inr (Or.inr (Or.inr (Or.inl ⟨by omega, hk, hl, w1, rfl, rfl⟩)))⟩ | fail
      · simp only [am_z0, am_z1, ne_eq] at c_36
        refine am_aload_n (pc' := 40) dX8_meet_39 rfl rfl rfl ?_
        refine am_bipush (pc' := 42) dX8_meet_40 rfl rfl (by decide) ?_
        refine am_callV0 (pc' := 45) (as := [_]) (ci := 7)  rfl dX8_meet_42 rfl ok_X8_refused ml_X8_117 im_X8_refused se_X8_refused rfl (Nat.le_of_ble_eq_true rfl) rfl (Nat.le_of_ble_eq_true rfl) (by first | assumption | exact ⟨by omega, by omega, rfl⟩) (t8_refused hM) (fun r_42 ρ_42 h_42 q_42 g_42 e_42 => ?_)
        obtain ⟨rfl, rfl, rfl⟩ := q_42
        refine am_reti dX8_meet_45 rfl ?_
        exact ⟨rfl, _, 0, rfl, md_frF_u, Or.inr (Or.inr (Or.inl ⟨by omega, by omega, by omega, rfl, rfl⟩))⟩
    · simp only [am_z0, am_z1, ne_eq] at c_18
      refine am_aload_n (pc' := 22) dX8_meet_21 rfl rfl rfl ?_
      refine am_iconst (pc' := 23) dX8_meet_22 rfl rfl ?_
      refine am_callV0 (pc' := 26) (as := [_]) (ci := 7)  rfl dX8_meet_23 rfl ok_X8_refused ml_X8_117 im_X8_refused se_X8_refused rfl (Nat.le_of_ble_eq_true rfl) rfl (Nat.le_of_ble_eq_true rfl) (by first | assumption | exact ⟨by omega, by omega, rfl⟩) (t8_refused hM) (fun r_23 ρ_23 h_23 q_23 g_23 e_23 => ?_)
      obtain ⟨rfl, rfl, rfl⟩ := q_23
      refine am_reti dX8_meet_26 rfl ?_
      exact ⟨rfl, _, 0, rfl, md_frF_u, Or.inr (Or.inl ⟨by omega, by omega, rfl, rfl⟩)⟩
  · refine am_aload_n (pc' := 8) dX8_meet_7 rfl rfl rfl ?_
    refine am_bipush (pc' := 10) dX8_meet_8 rfl rfl (by decide) ?_
    refine am_callV0 (pc' := 13) (as := [_]) (ci := 7)  rfl dX8_meet_10 rfl ok_X8_refused ml_X8_117 im_X8_refused se_X8_refused rfl (Nat.le_of_ble_eq_true rfl) rfl (Nat.le_of_ble_eq_true rfl) (by first | assumption | exact ⟨by omega, by omega, rfl⟩) (t8_refused hM) (fun r_10 ρ_10 h_10 q_10 g_10 e_10 => ?_)
    obtain ⟨rfl, rfl, rfl⟩ := q_10
    refine am_reti dX8_meet_13 rfl ?_
    exact ⟨rfl, _, 0, rfl, md_frF_u, Or.inl ⟨by omega, rfl, rfl⟩⟩
