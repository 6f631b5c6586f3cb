/-! the model: copy -/
theorem t8_copy_2 {ρ h : am_H} {k i o j n : Int} {Q : am_Q} (hM : am_LM ρ) (ho : 0 ≤ o ∧ o < 4) (hn : 0 ≤ n ∧ 0 ≤ j ∧ j + n ≤ 60) (hq : ∀ h1, am_fr [56] h h1 → (∀ y, h1 56 y = if 60 * o + j ≤ y ∧ y < 60 * o + j + n then h 57 (y - (60 * o + j)) else h 56 y) → Q (some (am_I n)) ρ (am_u h1 38 0 0)) :
    ∀ (m : Nat) (x : Int) (h1 : am_H), (n - x).toNat < m → 0 ≤ x → x ≤ n → am_fr [56] h h1 → (∀ y, h1 56 y = if 60 * o + j ≤ y ∧ y < 60 * o + j + x then h 57 (y - (60 * o + j)) else h 56 y) → am_WP mX8_copy 0 0 144 [some (am_R 38), some (am_I k), some (am_I i), some (am_I o), some (am_I j), some (am_I n), some (am_I x)] [] ρ h1 Q := by
  have hn58 := hM.1
  have e3 := am_lm hM 38 29 56 (by decide)
  have l3 := am_lm hM 56 (-1) 240 (by decide)
  have e4 := am_lm hM 38 30 57 (by decide)
  have l4 := am_lm hM 57 (-1) 60 (by decide)
  intro m
  induction m with
  | zero => intro x h1 hm; omega
  | succ m ih =>
    intro x h1 hm h0 h9 hf hr
    have g7 : h1 57 x = h 57 x := hf 57 x (by simp <;> omega)
    refine am_iload (pc' := 146) dX8_copy_144 rfl rfl ?_
    refine am_iload (pc' := 148) dX8_copy_146 rfl rfl ?_
    refine am_icmp_ge (pc' := 151) (tgt := 179) dX8_copy_148 rfl rfl (fun c_148 => ?_) (fun c_148 => ?_)
    · refine am_aload_n (pc' := 180) dX8_copy_179 rfl rfl rfl ?_
      refine am_iload (pc' := 182) dX8_copy_180 rfl rfl ?_
      refine am_callV0 (pc' := 185) (as := [_]) (ci := 7)  rfl dX8_copy_182 rfl ok_X8_refused ml_X8_117 im_X8_refused se_X8_refused rfl (Nat.le_of_ble_eq_true rfl) rfl (Nat.le_of_ble_eq_true rfl) (by first | assumption | exact ⟨by omega, by omega, rfl⟩) (t8_refused hM) (fun r_182 ρ_182 h_182 q_182 g_182 e_182 => ?_)
      obtain ⟨rfl, rfl, rfl⟩ := q_182
      refine am_reti dX8_copy_185 rfl ?_
      exact hq h1 hf (fun y => by rw [hr y, show x = n by omega])
    · refine am_aload_n (pc' := 152) dX8_copy_151 rfl rfl rfl ?_
      refine am_getRk (ki := 29) (pc' := 155) (k := 29) (ci := 7) rfl dX8_copy_152 rfl fl_X8_61 (by first | assumption | exact ⟨by omega, by omega, rfl⟩) rfl (by assumption) (by omega) ?_
      refine am_bipush (pc' := 157) dX8_copy_155 rfl rfl (by decide) ?_
      refine am_iload_n (pc' := 158) dX8_copy_157 rfl rfl rfl ?_
      refine am_imul (pc' := 159) dX8_copy_158 rfl ⟨by omega, by omega⟩ ?_
      refine am_iload (pc' := 161) dX8_copy_159 rfl rfl ?_
      refine am_iadd (pc' := 162) dX8_copy_161 rfl ⟨by omega, by omega⟩ ?_
      refine am_iload (pc' := 164) dX8_copy_162 rfl rfl ?_
      refine am_iadd (pc' := 165) dX8_copy_164 rfl ⟨by omega, by omega⟩ ?_
      refine am_aload_n (pc' := 166) dX8_copy_165 rfl rfl rfl ?_
      refine am_getRk (ki := 30) (pc' := 169) (k := 30) (ci := 7) rfl dX8_copy_166 rfl fl_X8_64 (by first | assumption | exact ⟨by omega, by omega, rfl⟩) rfl (by assumption) (by omega) ?_
      refine am_iload (pc' := 171) dX8_copy_169 rfl rfl ?_
      refine am_iaload (pc' := 172) dX8_copy_171 rfl (by first | assumption | exact ⟨by omega, by omega, rfl⟩) (by omega) (by omega) ?_
      refine am_iastore (pc' := 173) dX8_copy_172 rfl (by first | assumption | exact ⟨by omega, by omega, rfl⟩) (by omega) (by omega) ?_
      refine am_iinc (pc' := 176) (ls' := [_, _, _, _, _, _, _]) dX8_copy_173 rfl rfl ⟨by omega, by omega⟩ (Nat.le_of_ble_eq_true rfl) rfl rfl ?_
      refine am_goto (pc' := 144) dX8_copy_176 rfl ?_
      refine ih _ _ (by omega) (by omega) (by omega) (am_fr_u hf (by simp <;> omega)) (fun y => ?_)
      rw [am_u_if]
      by_cases z : y = 60 * o + j + x
      · rw [if_pos z, if_pos (by omega), g7, show y - (60 * o + j) = x by omega]
      · rw [if_neg z, hr y]
        by_cases w : 60 * o + j ≤ y ∧ y < 60 * o + j + x
        · rw [if_pos w, if_pos (by omega)]
        · rw [if_neg w, if_neg (by omega)]
theorem t8_copy_1 {ρ h : am_H} {k i o j n : Int} {Q : am_Q} (hM : am_LM ρ) (hk : 0 ≤ k ∧ k < 4) (hi : 0 ≤ i ∧ i + n ≤ 60) (ho : 0 ≤ o ∧ o < 4) (hn : 0 ≤ n ∧ 0 ≤ j ∧ j + n ≤ 60) (hq : ∀ h1, am_fr [56, 57] h h1 → (∀ y, h1 56 y = if 60 * o + j ≤ y ∧ y < 60 * o + j + n then h 56 (60 * k + i + (y - (60 * o + j))) else h 56 y) → Q (some (am_I n)) ρ (am_u h1 38 0 0)) :
    ∀ (m : Nat) (x : Int) (h1 : am_H), (n - x).toNat < m → 0 ≤ x → x ≤ n → am_fr [57] h h1 → (∀ y, 0 ≤ y → y < x → h1 57 y = h 56 (60 * k + i + y)) → am_WP mX8_copy 0 0 107 [some (am_R 38), some (am_I k), some (am_I i), some (am_I o), some (am_I j), some (am_I n), some (am_I x)] [] ρ h1 Q := by
  have hn58 := hM.1
  have e3 := am_lm hM 38 29 56 (by decide)
  have l3 := am_lm hM 56 (-1) 240 (by decide)
  have e4 := am_lm hM 38 30 57 (by decide)
  have l4 := am_lm hM 57 (-1) 60 (by decide)
  intro m
  induction m with
  | zero => intro x h1 hm; omega
  | succ m ih =>
    intro x h1 hm h0 h9 hf hr
    have g7 : ∀ y, h1 56 y = h 56 y := fun y => hf 56 y (by simp <;> omega)
    refine am_iload (pc' := 109) dX8_copy_107 rfl rfl ?_
    refine am_iload (pc' := 111) dX8_copy_109 rfl rfl ?_
    refine am_icmp_ge (pc' := 114) (tgt := 141) dX8_copy_111 rfl rfl (fun c_111 => ?_) (fun c_111 => ?_)
    · refine am_iconst (pc' := 142) dX8_copy_141 rfl rfl ?_
      refine am_istore (pc' := 144) (ls' := [_, _, _, _, _, _, _]) dX8_copy_142 rfl (Nat.le_of_ble_eq_true rfl) rfl rfl ?_
      refine t8_copy_2 (h := h1) hM ho hn (fun h2 a b => hq h2 (am_fr_trans (am_fr_sub hf (by intro x hx; simp at hx ⊢; omega)) (am_fr_sub a (by intro x hx; simp at hx ⊢; omega))) (fun y => ?_)) (n.toNat + 1) 0 h1 (by omega) (by omega) (by omega) am_fr_refl (fun y => by rw [if_neg (by omega)])
      rw [b y]
      by_cases w : 60 * o + j ≤ y ∧ y < 60 * o + j + n
      · rw [if_pos w, if_pos w]; exact hr _ (by omega) (by omega)
      · rw [if_neg w, if_neg w]; exact g7 y
    · refine am_aload_n (pc' := 115) dX8_copy_114 rfl rfl rfl ?_
      refine am_getRk (ki := 30) (pc' := 118) (k := 30) (ci := 7) rfl dX8_copy_115 rfl fl_X8_64 (by first | assumption | exact ⟨by omega, by omega, rfl⟩) rfl (by assumption) (by omega) ?_
      refine am_iload (pc' := 120) dX8_copy_118 rfl rfl ?_
      refine am_aload_n (pc' := 121) dX8_copy_120 rfl rfl rfl ?_
      refine am_getRk (ki := 29) (pc' := 124) (k := 29) (ci := 7) rfl dX8_copy_121 rfl fl_X8_61 (by first | assumption | exact ⟨by omega, by omega, rfl⟩) rfl (by assumption) (by omega) ?_
      refine am_bipush (pc' := 126) dX8_copy_124 rfl rfl (by decide) ?_
      refine am_iload_n (pc' := 127) dX8_copy_126 rfl rfl rfl ?_
      refine am_imul (pc' := 128) dX8_copy_127 rfl ⟨by omega, by omega⟩ ?_
      refine am_iload_n (pc' := 129) dX8_copy_128 rfl rfl rfl ?_
      refine am_iadd (pc' := 130) dX8_copy_129 rfl ⟨by omega, by omega⟩ ?_
      refine am_iload (pc' := 132) dX8_copy_130 rfl rfl ?_
      refine am_iadd (pc' := 133) dX8_copy_132 rfl ⟨by omega, by omega⟩ ?_
      refine am_iaload (pc' := 134) dX8_copy_133 rfl (by first | assumption | exact ⟨by omega, by omega, rfl⟩) (by omega) (by omega) ?_
      refine am_iastore (pc' := 135) dX8_copy_134 rfl (by first | assumption | exact ⟨by omega, by omega, rfl⟩) (by omega) (by omega) ?_
      refine am_iinc (pc' := 138) (ls' := [_, _, _, _, _, _, _]) dX8_copy_135 rfl rfl ⟨by omega, by omega⟩ (Nat.le_of_ble_eq_true rfl) rfl rfl ?_
      refine am_goto (pc' := 107) dX8_copy_138 rfl ?_
      refine ih _ _ (by omega) (by omega) (by omega) (am_fr_u hf (by simp <;> omega)) (am_upto (fun p p0 p1 => ?_) ?_)
      · rw [am_u_n (by omega)]; exact hr p p0 p1
      · rw [am_u_s]; exact g7 _
theorem t8_copy {ρ h : am_H} {k i o j n : Int} (hM : am_LM ρ) (hS : md_S h) : am_CT mX8_copy 0 0 [am_R 38, am_I k, am_I i, am_I o, am_I j, am_I n] ρ h (fun r ρ' h' => ρ' = ρ ∧ ((¬ ((0 ≤ k ∧ k < 4) ∧ 0 ≤ o ∧ o < 4) ∧ r = some (am_I (-1)) ∧ h' = am_u h 38 0 0) ∨ (((0 ≤ k ∧ k < 4) ∧ 0 ≤ o ∧ o < 4) ∧ o_cf (md_ln h k) (h 54 k) (md_ln h o) (h 54 o) i j n ≠ 0 ∧ h' = am_u h 38 0 (o_cf (md_ln h k) (h 54 k) (md_ln h o) (h 54 o) i j n) ∧ r = some (am_I (-10 - o_cf (md_ln h k) (h 54 k) (md_ln h o) (h 54 o) i j n))) ∨
    (((0 ≤ k ∧ k < 4) ∧ 0 ≤ o ∧ o < 4) ∧ o_cf (md_ln h k) (h 54 k) (md_ln h o) (h 54 o) i j n = 0 ∧ r = some (am_I n) ∧ ∃ h1, h' = am_u h1 38 0 0 ∧ am_fr [56, 57] h h1 ∧ ∀ y, h1 56 y = if 60 * o + j ≤ y ∧ y < 60 * o + j + n then h 56 (60 * k + i + (y - (60 * o + j))) else h 56 y))) := by
  have hn58 := hM.1
  have e1 := am_lm hM 38 27 54 (by decide)
  have l1 := am_lm hM 54 (-1) 4 (by decide)
  have e2 := am_lm hM 38 28 55 (by decide)
  have l2 := am_lm hM 55 (-1) 4 (by decide)
  have c1 : h 54 k < 0 ∨ h 54 o < 0 → o_cf (md_ln h k) (h 54 k) (md_ln h o) (h 54 o) i j n = 1 := fun z => by
    unfold o_cf
    rw [if_pos]
    rcases z with z | z
    · exact Or.inl (md_ln_n z)
    · exact Or.inr (md_ln_n z)
  have c2 : (0 ≤ k ∧ k < 4) → (0 ≤ o ∧ o < 4) → 0 ≤ h 54 k → 0 ≤ h 54 o → o_cf (md_ln h k) (h 54 k) (md_ln h o) (h 54 o) i j n = if h 55 k ≠ h 55 o then 2 else if (0 ≤ n ∧ 0 ≤ i ∧ i + n ≤ h 54 k) ∧ (0 ≤ n ∧ 0 ≤ j ∧ j + n ≤ h 54 o) then 0 else 3 := fun z1 z2 a b => by
    have s1 := hS k z1.1 z1.2
    have s2 := hS o z2.1 z2.2
    unfold o_cf
    rw [md_ln_p a, md_ln_p b, if_neg (by omega)]
  refine am_ct (ls := [some (am_R 38), some (am_I k), some (am_I i), some (am_I o), some (am_I j), some (am_I n), none]) ok_X8_copy rfl (fun _ => Nat.le_of_ble_eq_true rfl) (fun _ => rfl) (by intro v hv; simpa using hv) ?_
  refine am_WPol (fun ol => ?_)
  have oi : am_okI i := ol (am_I i) (by simp)
  have oj : am_okI j := ol (am_I j) (by simp)
  have on : am_okI n := ol (am_I n) (by simp)
  clear ol
  unfold am_okI at oi oj on
  refine am_iload_n (pc' := 1) dX8_copy_0 rfl rfl rfl ?_
  refine am_callSp (pc' := 4) (as := [_])  rfl dX8_copy_1 rfl ok_X8_noSheet ml_X8_113 sm_X8_noSheet (Nat.le_of_ble_eq_true rfl) rfl (Nat.le_of_ble_eq_true rfl) (t8_noSheet) ?_
  refine am_if_ne (pc' := 7) (tgt := 14) dX8_copy_4 rfl rfl (fun c_4 => ?_) (fun c_4 => ?_)
  · simp only [am_z0, am_z1, ne_eq] at c_4
    refine am_aload_n (pc' := 15) dX8_copy_14 rfl rfl rfl ?_
    refine am_iconst (pc' := 16) dX8_copy_15 rfl rfl ?_
    refine am_callV0 (pc' := 19) (as := [_]) (ci := 7)  rfl dX8_copy_16 rfl ok_X8_refused ml_X8_117 im_X8_refused se_X8_refused rfl (Nat.le_of_ble_eq_true rfl) rfl (Nat.le_of_ble_eq_true rfl) (by first | assumption | exact ⟨by omega, by omega, rfl⟩) (t8_refused hM) (fun r_16 ρ_16 h_16 q_16 g_16 e_16 => ?_)
    obtain ⟨rfl, rfl, rfl⟩ := q_16
    refine am_reti dX8_copy_19 rfl ?_
    exact ⟨rfl, Or.inl ⟨by omega, rfl, rfl⟩⟩
  · simp only [am_z0, am_z1, ne_eq] at c_4
    refine am_iload_n (pc' := 8) dX8_copy_7 rfl rfl rfl ?_
    refine am_callSp (pc' := 11) (as := [_])  rfl dX8_copy_8 rfl ok_X8_noSheet ml_X8_113 sm_X8_noSheet (Nat.le_of_ble_eq_true rfl) rfl (Nat.le_of_ble_eq_true rfl) (t8_noSheet) ?_
    refine am_if_eq (pc' := 14) (tgt := 20) dX8_copy_11 rfl rfl (fun c_11 => ?_) (fun c_11 => ?_)
    · simp only [am_z0, am_z1, ne_eq] at c_11
      have hk : 0 ≤ k ∧ k < 4 := by omega
      have ho : 0 ≤ o ∧ o < 4 := by omega
      have s1 := hS k hk.1 hk.2
      have s2 := hS o ho.1 ho.2
      refine am_aload_n (pc' := 21) dX8_copy_20 rfl rfl rfl ?_
      refine am_getRk (ki := 27) (pc' := 24) (k := 27) (ci := 7) rfl dX8_copy_21 rfl fl_X8_55 (by first | assumption | exact ⟨by omega, by omega, rfl⟩) rfl (by assumption) (by omega) ?_
      refine am_iload_n (pc' := 25) dX8_copy_24 rfl rfl rfl ?_
      refine am_iaload (pc' := 26) dX8_copy_25 rfl (by first | assumption | exact ⟨by omega, by omega, rfl⟩) (by omega) (by omega) ?_
      refine am_if_lt (pc' := 29) (tgt := 38) dX8_copy_26 rfl rfl (fun c_26 => ?_) (fun c_26 => ?_)
      · refine am_aload_n (pc' := 39) dX8_copy_38 rfl rfl rfl ?_
        refine am_iconst (pc' := 40) dX8_copy_39 rfl rfl ?_
        refine am_callV0 (pc' := 43) (as := [_]) (ci := 7)  rfl dX8_copy_40 rfl ok_X8_failed ml_X8_105 im_X8_failed se_X8_failed rfl (Nat.le_of_ble_eq_true rfl) rfl (Nat.le_of_ble_eq_true rfl) (by first | assumption | exact ⟨by omega, by omega, rfl⟩) (t8_failed hM (by omega)) (fun r_40 ρ_40 h_40 q_40 g_40 e_40 => ?_)
        obtain ⟨rfl, rfl, rfl⟩ := q_40
        refine am_reti dX8_copy_43 rfl ?_
        rw [c1 (by omega)]; exact ⟨rfl, Or.inr (Or.inl ⟨⟨hk, ho⟩, by decide, rfl, rfl⟩)⟩
      · refine am_aload_n (pc' := 30) dX8_copy_29 rfl rfl rfl ?_
        refine am_getRk (ki := 27) (pc' := 33) (k := 27) (ci := 7) rfl dX8_copy_30 rfl fl_X8_55 (by first | assumption | exact ⟨by omega, by omega, rfl⟩) rfl (by assumption) (by omega) ?_
        refine am_iload_n (pc' := 34) dX8_copy_33 rfl rfl rfl ?_
        refine am_iaload (pc' := 35) dX8_copy_34 rfl (by first | assumption | exact ⟨by omega, by omega, rfl⟩) (by omega) (by omega) ?_
        refine am_if_ge (pc' := 38) (tgt := 44) dX8_copy_35 rfl rfl (fun c_35 => ?_) (fun c_35 => ?_)
        · refine am_aload_n (pc' := 45) dX8_copy_44 rfl rfl rfl ?_
          refine am_getRk (ki := 28) (pc' := 48) (k := 28) (ci := 7) rfl dX8_copy_45 rfl fl_X8_58 (by first | assumption | exact ⟨by omega, by omega, rfl⟩) rfl (by assumption) (by omega) ?_
          refine am_iload_n (pc' := 49) dX8_copy_48 rfl rfl rfl ?_
          refine am_iaload (pc' := 50) dX8_copy_49 rfl (by first | assumption | exact ⟨by omega, by omega, rfl⟩) (by omega) (by omega) ?_
          refine am_aload_n (pc' := 51) dX8_copy_50 rfl rfl rfl ?_
          refine am_getRk (ki := 28) (pc' := 54) (k := 28) (ci := 7) rfl dX8_copy_51 rfl fl_X8_58 (by first | assumption | exact ⟨by omega, by omega, rfl⟩) rfl (by assumption) (by omega) ?_
          refine am_iload_n (pc' := 55) dX8_copy_54 rfl rfl rfl ?_
          refine am_iaload (pc' := 56) dX8_copy_55 rfl (by first | assumption | exact ⟨by omega, by omega, rfl⟩) (by omega) (by omega) ?_
          refine am_icmp_eq (pc' := 59) (tgt := 65) dX8_copy_56 rfl rfl (fun c_56 => ?_) (fun c_56 => ?_)
          · refine am_iload_n (pc' := 66) dX8_copy_65 rfl rfl rfl ?_
            refine am_iload (pc' := 68) dX8_copy_66 rfl rfl ?_
            refine am_i2l (pc' := 69) dX8_copy_68 rfl ?_
            refine am_aload_n (pc' := 70) dX8_copy_69 rfl rfl rfl ?_
            refine am_getRk (ki := 27) (pc' := 73) (k := 27) (ci := 7) rfl dX8_copy_70 rfl fl_X8_55 (by first | assumption | exact ⟨by omega, by omega, rfl⟩) rfl (by assumption) (by omega) ?_
            refine am_iload_n (pc' := 74) dX8_copy_73 rfl rfl rfl ?_
            refine am_iaload (pc' := 75) dX8_copy_74 rfl (by first | assumption | exact ⟨by omega, by omega, rfl⟩) (by omega) (by omega) ?_
            refine am_callSp (pc' := 78) (as := [_, _, _])  rfl dX8_copy_75 rfl ok_X8_isBeyond ml_X8_109 sm_X8_isBeyond (Nat.le_of_ble_eq_true rfl) rfl (Nat.le_of_ble_eq_true rfl) (t8_isBeyond (by omega) (by omega)) ?_
            refine am_if_ne (pc' := 81) (tgt := 98) dX8_copy_78 rfl rfl (fun c_78 => ?_) (fun c_78 => ?_)
            · simp only [am_z0, am_z1, ne_eq] at c_78
              refine am_aload_n (pc' := 99) dX8_copy_98 rfl rfl rfl ?_
              refine am_iconst (pc' := 100) dX8_copy_99 rfl rfl ?_
              refine am_callV0 (pc' := 103) (as := [_]) (ci := 7)  rfl dX8_copy_100 rfl ok_X8_failed ml_X8_105 im_X8_failed se_X8_failed rfl (Nat.le_of_ble_eq_true rfl) rfl (Nat.le_of_ble_eq_true rfl) (by first | assumption | exact ⟨by omega, by omega, rfl⟩) (t8_failed hM (by omega)) (fun r_100 ρ_100 h_100 q_100 g_100 e_100 => ?_)
              obtain ⟨rfl, rfl, rfl⟩ := q_100
              refine am_reti dX8_copy_103 rfl ?_
              rw [c2 hk ho (by omega) (by omega), if_neg (by omega), if_neg (by omega)]; exact ⟨rfl, Or.inr (Or.inl ⟨⟨hk, ho⟩, by decide, rfl, rfl⟩)⟩
            · simp only [am_z0, am_z1, ne_eq] at c_78
              refine am_iload (pc' := 83) dX8_copy_81 rfl rfl ?_
              refine am_iload (pc' := 85) dX8_copy_83 rfl rfl ?_
              refine am_i2l (pc' := 86) dX8_copy_85 rfl ?_
              refine am_aload_n (pc' := 87) dX8_copy_86 rfl rfl rfl ?_
              refine am_getRk (ki := 27) (pc' := 90) (k := 27) (ci := 7) rfl dX8_copy_87 rfl fl_X8_55 (by first | assumption | exact ⟨by omega, by omega, rfl⟩) rfl (by assumption) (by omega) ?_
              refine am_iload_n (pc' := 91) dX8_copy_90 rfl rfl rfl ?_
              refine am_iaload (pc' := 92) dX8_copy_91 rfl (by first | assumption | exact ⟨by omega, by omega, rfl⟩) (by omega) (by omega) ?_
              refine am_callSp (pc' := 95) (as := [_, _, _])  rfl dX8_copy_92 rfl ok_X8_isBeyond ml_X8_109 sm_X8_isBeyond (Nat.le_of_ble_eq_true rfl) rfl (Nat.le_of_ble_eq_true rfl) (t8_isBeyond (by omega) (by omega)) ?_
              refine am_if_eq (pc' := 98) (tgt := 104) dX8_copy_95 rfl rfl (fun c_95 => ?_) (fun c_95 => ?_)
              · simp only [am_z0, am_z1, ne_eq] at c_95
                refine am_iconst (pc' := 105) dX8_copy_104 rfl rfl ?_
                refine am_istore (pc' := 107) (ls' := [_, _, _, _, _, _, _]) dX8_copy_105 rfl (Nat.le_of_ble_eq_true rfl) rfl rfl ?_
                exact t8_copy_1 hM hk (by omega) ho (by omega) (fun h1 a b => ⟨rfl, Or.inr (Or.inr ⟨⟨hk, ho⟩, by rw [c2 hk ho (by omega) (by omega), if_neg (by omega), if_pos (by omega)], rfl, h1, rfl, a, b⟩)⟩) (n.toNat + 1) 0 _ (by omega) (by omega) (by omega) am_fr_refl (fun y y0 y1 => by omega)
              · simp only [am_z0, am_z1, ne_eq] at c_95
                refine am_aload_n (pc' := 99) dX8_copy_98 rfl rfl rfl ?_
                refine am_iconst (pc' := 100) dX8_copy_99 rfl rfl ?_
                refine am_callV0 (pc' := 103) (as := [_]) (ci := 7)  rfl dX8_copy_100 rfl ok_X8_failed ml_X8_105 im_X8_failed se_X8_failed rfl (Nat.le_of_ble_eq_true rfl) rfl (Nat.le_of_ble_eq_true rfl) (by first | assumption | exact ⟨by omega, by omega, rfl⟩) (t8_failed hM (by omega)) (fun r_100 ρ_100 h_100 q_100 g_100 e_100 => ?_)
                obtain ⟨rfl, rfl, rfl⟩ := q_100
                refine am_reti dX8_copy_103 rfl ?_
                rw [c2 hk ho (by omega) (by omega), if_neg (by omega), if_neg (by omega)]; exact ⟨rfl, Or.inr (Or.inl ⟨⟨hk, ho⟩, by decide, rfl, rfl⟩)⟩
          · refine am_aload_n (pc' := 60) dX8_copy_59 rfl rfl rfl ?_
            refine am_iconst (pc' := 61) dX8_copy_60 rfl rfl ?_
            refine am_callV0 (pc' := 64) (as := [_]) (ci := 7)  rfl dX8_copy_61 rfl ok_X8_failed ml_X8_105 im_X8_failed se_X8_failed rfl (Nat.le_of_ble_eq_true rfl) rfl (Nat.le_of_ble_eq_true rfl) (by first | assumption | exact ⟨by omega, by omega, rfl⟩) (t8_failed hM (by omega)) (fun r_61 ρ_61 h_61 q_61 g_61 e_61 => ?_)
            obtain ⟨rfl, rfl, rfl⟩ := q_61
            refine am_reti dX8_copy_64 rfl ?_
            rw [c2 hk ho (by omega) (by omega), if_pos (by omega)]; exact ⟨rfl, Or.inr (Or.inl ⟨⟨hk, ho⟩, by decide, rfl, rfl⟩)⟩
        · refine am_aload_n (pc' := 39) dX8_copy_38 rfl rfl rfl ?_
          refine am_iconst (pc' := 40) dX8_copy_39 rfl rfl ?_
          refine am_callV0 (pc' := 43) (as := [_]) (ci := 7)  rfl dX8_copy_40 rfl ok_X8_failed ml_X8_105 im_X8_failed se_X8_failed rfl (Nat.le_of_ble_eq_true rfl) rfl (Nat.le_of_ble_eq_true rfl) (by first | assumption | exact ⟨by omega, by omega, rfl⟩) (t8_failed hM (by omega)) (fun r_40 ρ_40 h_40 q_40 g_40 e_40 => ?_)
          obtain ⟨rfl, rfl, rfl⟩ := q_40
          refine am_reti dX8_copy_43 rfl ?_
          rw [c1 (by omega)]; exact ⟨rfl, Or.inr (Or.inl ⟨⟨hk, ho⟩, by decide, rfl, rfl⟩)⟩
    · simp only [am_z0, am_z1, ne_eq] at c_11
      refine am_aload_n (pc' := 15) dX8_copy_14 rfl rfl rfl ?_
      refine am_iconst (pc' := 16) dX8_copy_15 rfl rfl ?_
      refine am_callV0 (pc' := 19) (as := [_]) (ci := 7)  rfl dX8_copy_16 rfl ok_X8_refused ml_X8_117 im_X8_refused se_X8_refused rfl (Nat.le_of_ble_eq_true rfl) rfl (Nat.le_of_ble_eq_true rfl) (by first | assumption | exact ⟨by omega, by omega, rfl⟩) (t8_refused hM) (fun r_16 ρ_16 h_16 q_16 g_16 e_16 => ?_)
      obtain ⟨rfl, rfl, rfl⟩ := q_16
      refine am_reti dX8_copy_19 rfl ?_
      exact ⟨rfl, Or.inl ⟨by omega, rfl, rfl⟩⟩
