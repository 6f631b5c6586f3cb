/-! the model: a day -/
theorem t8_tailNow2 {ρ h : am_H} (hM : am_LM ρ) (hR : md_R h) (h0 : h 38 1 ≠ 0) : am_CT mX8_tailNow 0 0 [am_R 38] ρ h (fun r ρ' h' => ρ' = ρ ∧ md_fr h h' ∧ (∀ j, h' 50 j = h 50 j) ∧ ∃ v, r = some (am_I v) ∧ gr_tl (md_nx h) (md_row h) v) := by
  have hn58 := hM.1
  obtain ⟨hA, hnm, hkd⟩ := md_RA hR h0
  have hrow := md_row_in hA hnm
  have e1 := am_lm hM 38 16 48 (by decide)
  have l1 := am_lm hM 48 (-1) 7776 (by decide)
  refine am_ct (ls := [some (am_R 38), none]) ok_X8_tailNow rfl (fun _ => Nat.le_of_ble_eq_true rfl) (fun _ => rfl) (by intro v hv; simpa using hv) ?_
  refine am_aload_n (pc' := 1) dX8_tailNow_0 rfl rfl rfl ?_
  refine am_callV0 (pc' := 4) (as := []) (ci := 7)  rfl dX8_tailNow_1 rfl ok_X8_rowNow ml_X8_191 im_X8_rowNow se_X8_rowNow rfl (Nat.le_of_ble_eq_true rfl) rfl (Nat.le_of_ble_eq_true rfl) (by first | assumption | exact ⟨by omega, by omega, rfl⟩) (t8_rowNow hM hA hnm) (fun r_1 ρ_1 h_1 q_1 g_1 e_1 => ?_)
  obtain ⟨rfl, rfl, q1⟩ := q_1
  have g : ∀ k, h_1 38 k = h 38 k := fun k => q1 38 k (by simp <;> omega)
  refine am_istore_n (pc' := 5) (ls' := [_, _]) dX8_tailNow_4 rfl rfl (Nat.le_of_ble_eq_true rfl) rfl rfl ?_
  refine am_aload_n (pc' := 6) dX8_tailNow_5 rfl rfl rfl ?_
  refine am_callV0 (pc' := 9) (as := []) (ci := 7)  rfl dX8_tailNow_6 rfl ok_X8_tables ml_X8_194 im_X8_tables se_X8_tables rfl (Nat.le_of_ble_eq_true rfl) rfl (Nat.le_of_ble_eq_true rfl) (by first | assumption | exact ⟨by omega, by omega, rfl⟩) (t8_tables hM (by unfold md_A; rw [g, g]; exact hA)) (fun r_6 ρ_6 h_6 q_6 g_6 e_6 => ?_)
  obtain ⟨hQ, hfr, hbr⟩ := md_go hM hR h0 q1 q_6
  have h50 : ∀ j, h_6 50 j = h 50 j := fun j => (q_6.2.2.1 50 j (by simp <;> omega)).trans (q1 50 j (by simp <;> omega))
  obtain ⟨rfl, rfl, _⟩ := q_6
  have hN := md_QN hQ
  have hrb : 0 ≤ md_row h ∧ md_row h < md_N h := hrow
  refine am_aload_n (pc' := 10) dX8_tailNow_9 rfl rfl rfl ?_
  refine am_getRk (ki := 16) (pc' := 13) (k := 16) (ci := 7) rfl dX8_tailNow_10 rfl fl_X8_37 (by first | assumption | exact ⟨by omega, by omega, rfl⟩) rfl (by assumption) (by omega) ?_
  refine am_iload_n (pc' := 14) dX8_tailNow_13 rfl rfl rfl ?_
  refine am_iaload (pc' := 15) dX8_tailNow_14 rfl (by first | assumption | exact ⟨by omega, by omega, rfl⟩) hrow.1 (by show md_row h < _; omega) ?_
  refine am_reti dX8_tailNow_15 rfl ?_
  exact ⟨rfl, hfr, h50, _, rfl, (hQ.2.2.2.2.2.2.1 _ hrow.1 hrow.2).1⟩
def md_df (h h' : am_H) : Prop := am_fr [38, 40, 43, 44] h h' ∧ ∀ k, k ≠ 20 → k ≠ 21 → h' 38 k = h 38 k
theorem md_df_r {h : am_H} : md_df h h := ⟨am_fr_refl, fun _ _ _ => rfl⟩
theorem md_df_t {h h1 h2 : am_H} (a : md_df h h1) (b : md_df h1 h2) : md_df h h2 := ⟨am_fr_trans a.1 b.1, fun k z1 z2 => (b.2 k z1 z2).trans (a.2 k z1 z2)⟩
theorem md_df_s {h h1 : am_H} {j v : Int} (a : md_df h h1) (hj : j = 20 ∨ j = 21) : md_df h (am_u h1 38 j v) := ⟨am_fr_u a.1 (by simp <;> omega), fun k z1 z2 => by rw [am_u_n (by omega)]; exact a.2 k z1 z2⟩
theorem t8_doesPair {ρ h : am_H} {f s : Int} (hM : am_LM ρ) (hR : md_R h) (h0 : h 38 1 ≠ 0) (ha : dy_act f s = true) (hd : 0 ≤ h 38 21 ∧ h 38 21 ≤ 10000) : am_CT mX8_doesPair 0 0 [am_R 38, am_I f, am_I s] ρ h (fun r ρ' h' => ρ' = ρ ∧ md_df h h' ∧ h' 38 20 = h 38 20 ∧ ((dy_can (h 38 1) (h 38 2) f s = true ∧ r = some (am_I 1) ∧ mt_eq (h 38 1) (h' 40) (if s = 9 then mt_it (h 38 1) (h 38 2) (h 39) f.toNat (h 40) else mt_up (h 40) s f) ∧ h' 38 21 = h 38 21 + (if s = 9 then f else 0)) ∨ (dy_can (h 38 1) (h 38 2) f s = false ∧ r = some (am_I 0)))) := by
  have hn58 := hM.1
  obtain ⟨hA, hnm, hkd⟩ := md_RA hR h0
  obtain ⟨a1, a2⟩ := id hA
  have hai := dy_act_in ha
  refine am_ct (ls := [some (am_R 38), some (am_I f), some (am_I s)]) ok_X8_doesPair rfl (fun _ => Nat.le_of_ble_eq_true rfl) (fun _ => rfl) (by intro v hv; simpa using hv) ?_
  refine am_iload_n (pc' := 1) dX8_doesPair_0 rfl rfl rfl ?_
  refine am_bipush (pc' := 3) dX8_doesPair_1 rfl rfl (by decide) ?_
  refine am_icmp_ne (pc' := 6) (tgt := 23) dX8_doesPair_3 rfl rfl (fun c_3 => ?_) (fun c_3 => ?_)
  · refine am_aload_n (pc' := 24) dX8_doesPair_23 rfl rfl rfl ?_
    refine am_iload_n (pc' := 25) dX8_doesPair_24 rfl rfl rfl ?_
    refine am_iload_n (pc' := 26) dX8_doesPair_25 rfl rfl rfl ?_
    refine am_callV0 (pc' := 29) (as := [_, _]) (ci := 7)  rfl dX8_doesPair_26 rfl ok_X8_write ml_X8_203 im_X8_write se_X8_write rfl (Nat.le_of_ble_eq_true rfl) rfl (Nat.le_of_ble_eq_true rfl) (by first | assumption | exact ⟨by omega, by omega, rfl⟩) (t8_write hM hR) (fun r_26 ρ_26 h_26 q_26 g_26 e_26 => ?_)
    obtain ⟨rfl, rfl, w⟩ := q_26
    by_cases z : (0 ≤ s ∧ s < h 38 1) ∧ 0 ≤ f ∧ f < h 38 2
    · rw [if_pos z] at w
      have ow : o_write (h 38 1) (h 38 2) (h 40) s f = h 40 s := by unfold o_write; rw [if_pos z.1, if_pos z.2]
      rw [ow]
      have v0 := hnm s z.1.1 z.1.2
      refine am_if_lt (pc' := 32) (tgt := 36) dX8_doesPair_29 rfl rfl (fun c_29 => ?_) (fun c_29 => ?_)
      · refine am_iconst (pc' := 37) dX8_doesPair_36 rfl rfl ?_
        refine am_retz dX8_doesPair_37 rfl (by first | exact Or.inl rfl | exact Or.inr rfl | omega) ?_
        first | (exfalso; omega) | (rw [w]; exact ⟨rfl, ⟨am_fr_u am_fr_refl (by simp <;> omega), fun k _ _ => am_u_n (by omega)⟩, am_u_n (by omega), Or.inl ⟨by unfold dy_can; exact decide_eq_true (Or.inr (by omega)), rfl, by rw [if_neg c_3]; exact fun p p0 p1 => by rw [am_u_if]; rfl, by rw [if_neg c_3, am_u_n (by omega)]; omega⟩⟩) | (rw [w]; exact ⟨rfl, md_df_r, rfl, Or.inr ⟨by unfold dy_can; exact decide_eq_false (by omega), rfl⟩⟩) | fail
      · refine am_iconst (pc' := 33) dX8_doesPair_32 rfl rfl ?_
        refine am_goto (pc' := 37) dX8_doesPair_33 rfl ?_
        refine am_retz dX8_doesPair_37 rfl (by first | exact Or.inl rfl | exact Or.inr rfl | omega) ?_
        first | (exfalso; omega) | (rw [w]; exact ⟨rfl, ⟨am_fr_u am_fr_refl (by simp <;> omega), fun k _ _ => am_u_n (by omega)⟩, am_u_n (by omega), Or.inl ⟨by unfold dy_can; exact decide_eq_true (Or.inr (by omega)), rfl, by rw [if_neg c_3]; exact fun p p0 p1 => by rw [am_u_if]; rfl, by rw [if_neg c_3, am_u_n (by omega)]; omega⟩⟩) | (rw [w]; exact ⟨rfl, md_df_r, rfl, Or.inr ⟨by unfold dy_can; exact decide_eq_false (by omega), rfl⟩⟩) | fail
    · rw [if_neg z] at w
      have ow : o_write (h 38 1) (h 38 2) (h 40) s f < 0 := by
        unfold o_write
        by_cases y : 0 ≤ s ∧ s < h 38 1
        · rw [if_pos y, if_neg (fun u => z ⟨y, u⟩)]; omega
        · rw [if_neg y]; omega
      refine am_if_lt (pc' := 32) (tgt := 36) dX8_doesPair_29 rfl rfl (fun c_29 => ?_) (fun c_29 => ?_)
      · refine am_iconst (pc' := 37) dX8_doesPair_36 rfl rfl ?_
        refine am_retz dX8_doesPair_37 rfl (by first | exact Or.inl rfl | exact Or.inr rfl | omega) ?_
        first | (exfalso; omega) | (rw [w]; exact ⟨rfl, ⟨am_fr_u am_fr_refl (by simp <;> omega), fun k _ _ => am_u_n (by omega)⟩, am_u_n (by omega), Or.inl ⟨by unfold dy_can; exact decide_eq_true (Or.inr (by omega)), rfl, by rw [if_neg c_3]; exact fun p p0 p1 => by rw [am_u_if]; rfl, by rw [if_neg c_3, am_u_n (by omega)]; omega⟩⟩) | (rw [w]; exact ⟨rfl, md_df_r, rfl, Or.inr ⟨by unfold dy_can; exact decide_eq_false (by omega), rfl⟩⟩) | fail
      · refine am_iconst (pc' := 33) dX8_doesPair_32 rfl rfl ?_
        refine am_goto (pc' := 37) dX8_doesPair_33 rfl ?_
        refine am_retz dX8_doesPair_37 rfl (by first | exact Or.inl rfl | exact Or.inr rfl | omega) ?_
        first | (exfalso; omega) | (rw [w]; exact ⟨rfl, ⟨am_fr_u am_fr_refl (by simp <;> omega), fun k _ _ => am_u_n (by omega)⟩, am_u_n (by omega), Or.inl ⟨by unfold dy_can; exact decide_eq_true (Or.inr (by omega)), rfl, by rw [if_neg c_3]; exact fun p p0 p1 => by rw [am_u_if]; rfl, by rw [if_neg c_3, am_u_n (by omega)]; omega⟩⟩) | (rw [w]; exact ⟨rfl, md_df_r, rfl, Or.inr ⟨by unfold dy_can; exact decide_eq_false (by omega), rfl⟩⟩) | fail
  · refine am_aload_n (pc' := 7) dX8_doesPair_6 rfl rfl rfl ?_
    refine am_iload_n (pc' := 8) dX8_doesPair_7 rfl rfl rfl ?_
    refine am_callV0 (pc' := 11) (as := [_]) (ci := 7)  rfl dX8_doesPair_8 rfl ok_X8_doesSteps ml_X8_160 im_X8_doesSteps se_X8_doesSteps rfl (Nat.le_of_ble_eq_true rfl) rfl (Nat.le_of_ble_eq_true rfl) (by first | assumption | exact ⟨by omega, by omega, rfl⟩) (t8_doesSteps hM hA hnm (by omega)) (fun r_8 ρ_8 h_8 q_8 g_8 e_8 => ?_)
    obtain ⟨rfl, rfl, q1, q2⟩ := q_8
    have g21 : h_8 38 21 = h 38 21 := q1 38 21 (by simp <;> omega)
    refine am_aload_n (pc' := 12) dX8_doesPair_11 rfl rfl rfl ?_
    first | refine am_dupR (pc' := 13) dX8_doesPair_12 rfl ?_ | refine am_dupI (pc' := 13) dX8_doesPair_12 rfl ?_
    refine am_getIk (ki := 21) (pc' := 16) (k := 21) (ci := 7) rfl dX8_doesPair_13 rfl fl_X8_200 (by first | assumption | exact ⟨by omega, by omega, rfl⟩) rfl ?_
    rw [g21]
    refine am_iload_n (pc' := 17) dX8_doesPair_16 rfl rfl rfl ?_
    refine am_iadd (pc' := 18) dX8_doesPair_17 rfl ⟨by omega, by omega⟩ ?_
    refine am_putIk (ki := 21) (pc' := 21) (k := 21) (ci := 7) rfl dX8_doesPair_18 rfl fl_X8_200 (by first | assumption | exact ⟨by omega, by omega, rfl⟩) rfl (fun _ _ _ e => by cases e; rfl) ?_
    refine am_iconst (pc' := 22) dX8_doesPair_21 rfl rfl ?_
    refine am_retz dX8_doesPair_22 rfl (by first | exact Or.inl rfl | exact Or.inr rfl | omega) ?_
    refine ⟨rfl, md_df_s ⟨am_fr_sub q1 (by intro x hx; simp at hx ⊢; omega), fun k _ _ => q1 38 k (by simp <;> omega)⟩ (by omega), ?_, Or.inl ⟨?_, rfl, ?_, ?_⟩⟩
    · rw [am_u_n (by omega)]; exact q1 38 20 (by simp <;> omega)
    · unfold dy_can; exact decide_eq_true (Or.inl c_3)
    · rw [if_pos c_3]; exact fun p p0 p1 => by rw [am_u_n (by omega)]; exact q2 p p0 p1
    · rw [if_pos c_3, am_u_s]
/-- what a day may change -/
def md_dfr (h h' : am_H) : Prop := (∀ x j, x ≠ 38 → ¬ (40 ≤ x ∧ x ≤ 49) → x ≠ 57 → h' x j = h x j) ∧ ∀ j, j = 0 ∨ j = 1 ∨ j = 2 ∨ j = 3 ∨ j = 23 ∨ j = 31 → h' 38 j = h 38 j
theorem md_dfr_of {h h' : am_H} (a : md_df h h') : md_dfr h h' := ⟨fun x j z1 z2 z3 => a.1 x j (by simp <;> omega), fun j z => a.2 j (by omega) (by omega)⟩
theorem md_dfr_fr {h h1 h2 : am_H} (a : md_dfr h h1) (b : md_fr h1 h2) (c : ∀ j, h2 50 j = h1 50 j) : md_dfr h h2 := ⟨fun x j z1 z2 z3 => by
  by_cases y : x = 50
  · rw [y, c j]; exact a.1 50 j (by omega) (by omega) (by omega)
  · exact (b.1 x j z1 (by omega) z3).trans (a.1 x j z1 z2 z3), fun j z => (b.2 j z).trans (a.2 j z)⟩
theorem t8_dayOf_99 {ρ h h1 : am_H} {b n w fw x : Int} {F : Int → Int} {s o : Int} {Q : am_Q} (hM : am_LM ρ) (hR : md_R h) (h0 : h 38 1 ≠ 0) (hd : md_df h h1) (hw : o_dw w) (hfw : fw = -9 ∨ (0 ≤ fw ∧ fw ≤ 20)) (hF : fw = -9 → mt_eq (h 38 1) (h1 40) F ∧ mt_ok (h 38 1) (h 38 2) F ∧ h1 38 21 = s ∧ h1 38 20 = o) (hq : ∀ v h2, md_dfr h h2 → o_ofDay (md_nx h) (h 38 1) (h 38 2) fw F s o w v → Q (some (am_I v)) ρ h2) :
    am_WP mX8_dayOf 0 0 99 [some (am_R 38), some (am_I b), some (am_I n), some (am_I w), some (am_I fw), some (am_I x)] [] ρ h1 Q := by
  have hn58 := hM.1
  obtain ⟨hA, hnm, hkd⟩ := md_RA hR h0
  obtain ⟨a1, a2⟩ := id hA
  have e2 := am_lm hM 38 5 40 (by decide)
  have l2 := am_lm hM 40 (-1) 5 (by decide)
  have g1 : h1 38 1 = h 38 1 := hd.2 1 (by decide) (by decide)
  have g2 : h1 38 2 = h 38 2 := hd.2 2 (by decide) (by decide)
  have g3 : h1 39 = h 39 := funext fun k => hd.1 39 k (by simp <;> omega)
  have hA1 : md_A h1 := by unfold md_A; rw [g1, g2]; exact hA
  have hn1 : fw = -9 → mt_ok (h1 38 1) (h1 38 2) (h1 40) := fun z p p0 p1 => by
    rw [g1] at p1
    rw [(hF z).1 p p0 p1, g2]
    exact (hF z).2.1 p p0 p1
  have hR1 : fw = -9 → md_R h1 := fun z => Or.inr ⟨hA1, hn1 z, by rw [g1, g3]; exact hkd⟩
  have d0 := md_dfr_of hd
  unfold o_dw at hw
  refine am_iload_n (pc' := 100) dX8_dayOf_99 rfl rfl rfl ?_
  refine am_iconst (pc' := 101) dX8_dayOf_100 rfl rfl ?_
  refine am_icmp_ne (pc' := 104) (tgt := 107) dX8_dayOf_101 rfl rfl (fun c_101 => ?_) (fun c_101 => ?_)
  · refine am_iload (pc' := 109) dX8_dayOf_107 rfl rfl ?_
    refine am_if_lt (pc' := 112) (tgt := 118) dX8_dayOf_109 rfl rfl (fun c_109 => ?_) (fun c_109 => ?_)
    · have z9 : fw = -9 := by omega
      obtain ⟨f1, f2, f3, f4⟩ := hF z9
      refine am_iload_n (pc' := 119) dX8_dayOf_118 rfl rfl rfl ?_
      refine am_bipush (pc' := 121) dX8_dayOf_119 rfl rfl (by decide) ?_
      refine am_icmp_lt (pc' := 124) (tgt := 150) dX8_dayOf_121 rfl rfl (fun c_121 => ?_) (fun c_121 => ?_)
      · refine am_iload_n (pc' := 151) dX8_dayOf_150 rfl rfl rfl ?_
        refine am_if_ne (pc' := 154) (tgt := 161) dX8_dayOf_151 rfl rfl (fun c_151 => ?_) (fun c_151 => ?_)
        · refine am_iload_n (pc' := 162) dX8_dayOf_161 rfl rfl rfl ?_
          refine am_iconst (pc' := 163) dX8_dayOf_162 rfl rfl ?_
          refine am_icmp_ne (pc' := 166) (tgt := 173) dX8_dayOf_163 rfl rfl (fun c_163 => ?_) (fun c_163 => ?_)
          · refine am_iload_n (pc' := 174) dX8_dayOf_173 rfl rfl rfl ?_
            refine am_iconst (pc' := 175) dX8_dayOf_174 rfl rfl ?_
            refine am_icmp_ne (pc' := 178) (tgt := 185) dX8_dayOf_175 rfl rfl (fun c_175 => ?_) (fun c_175 => ?_)
            · refine am_aload_n (pc' := 186) dX8_dayOf_185 rfl rfl rfl ?_
              refine am_callV0 (pc' := 189) (as := []) (ci := 7)  rfl dX8_dayOf_186 rfl ok_X8_tailNow ml_X8_215 im_X8_tailNow se_X8_tailNow rfl (Nat.le_of_ble_eq_true rfl) rfl (Nat.le_of_ble_eq_true rfl) (by first | assumption | exact ⟨by omega, by omega, rfl⟩) (t8_tailNow2 hM (hR1 z9) (by rw [g1]; exact h0)) (fun r_186 ρ_186 h_186 q_186 g_186 e_186 => ?_)
              first | (obtain ⟨rfl, y1, y2, v, rfl, y3⟩ := q_186; unfold md_nx md_row at y3; rw [g1, g2, g3] at y3; refine am_reti dX8_dayOf_189 rfl (hq _ _ (md_dfr_fr d0 y1 y2) (Or.inr (Or.inr ⟨c_101, z9, Or.inr (Or.inr (Or.inr (Or.inl ⟨by omega, ?_⟩)))⟩))); rw [← mt_cd_eq (f := h1 40) (g := F) (fun p p0 p1 => f1 p p0 (by omega))]; exact y3) | exact am_reti dX8_dayOf_189 rfl (hq _ _ d0 (Or.inr (Or.inr ⟨c_101, z9, Or.inl ⟨by omega, by rw [g1]; exact mt_sum_eq (fun p p0 p1 => f1 p p0 (by omega))⟩⟩))) | exact am_reti dX8_dayOf_189 rfl (hq _ _ d0 (Or.inr (Or.inr ⟨c_101, z9, Or.inr (Or.inl ⟨by omega, f3⟩)⟩))) | exact am_reti dX8_dayOf_189 rfl (hq _ _ d0 (Or.inr (Or.inr ⟨c_101, z9, Or.inr (Or.inr (Or.inl ⟨by omega, f4⟩))⟩))) | fail
            · refine am_aload_n (pc' := 179) dX8_dayOf_178 rfl rfl rfl ?_
              refine am_getIk (ki := 20) (pc' := 182) (k := 20) (ci := 7) rfl dX8_dayOf_179 rfl fl_X8_206 (by first | assumption | exact ⟨by omega, by omega, rfl⟩) rfl ?_
              refine am_goto (pc' := 189) dX8_dayOf_182 rfl ?_
              first | (obtain ⟨rfl, y1, y2, v, rfl, y3⟩ := q_186; unfold md_nx md_row at y3; rw [g1, g2, g3] at y3; refine am_reti dX8_dayOf_189 rfl (hq _ _ (md_dfr_fr d0 y1 y2) (Or.inr (Or.inr ⟨c_101, z9, Or.inr (Or.inr (Or.inr (Or.inl ⟨by omega, ?_⟩)))⟩))); rw [← mt_cd_eq (f := h1 40) (g := F) (fun p p0 p1 => f1 p p0 (by omega))]; exact y3) | exact am_reti dX8_dayOf_189 rfl (hq _ _ d0 (Or.inr (Or.inr ⟨c_101, z9, Or.inl ⟨by omega, by rw [g1]; exact mt_sum_eq (fun p p0 p1 => f1 p p0 (by omega))⟩⟩))) | exact am_reti dX8_dayOf_189 rfl (hq _ _ d0 (Or.inr (Or.inr ⟨c_101, z9, Or.inr (Or.inl ⟨by omega, f3⟩)⟩))) | exact am_reti dX8_dayOf_189 rfl (hq _ _ d0 (Or.inr (Or.inr ⟨c_101, z9, Or.inr (Or.inr (Or.inl ⟨by omega, f4⟩))⟩))) | fail
          · refine am_aload_n (pc' := 167) dX8_dayOf_166 rfl rfl rfl ?_
            refine am_getIk (ki := 21) (pc' := 170) (k := 21) (ci := 7) rfl dX8_dayOf_167 rfl fl_X8_200 (by first | assumption | exact ⟨by omega, by omega, rfl⟩) rfl ?_
            refine am_goto (pc' := 189) dX8_dayOf_170 rfl ?_
            first | (obtain ⟨rfl, y1, y2, v, rfl, y3⟩ := q_186; unfold md_nx md_row at y3; rw [g1, g2, g3] at y3; refine am_reti dX8_dayOf_189 rfl (hq _ _ (md_dfr_fr d0 y1 y2) (Or.inr (Or.inr ⟨c_101, z9, Or.inr (Or.inr (Or.inr (Or.inl ⟨by omega, ?_⟩)))⟩))); rw [← mt_cd_eq (f := h1 40) (g := F) (fun p p0 p1 => f1 p p0 (by omega))]; exact y3) | exact am_reti dX8_dayOf_189 rfl (hq _ _ d0 (Or.inr (Or.inr ⟨c_101, z9, Or.inl ⟨by omega, by rw [g1]; exact mt_sum_eq (fun p p0 p1 => f1 p p0 (by omega))⟩⟩))) | exact am_reti dX8_dayOf_189 rfl (hq _ _ d0 (Or.inr (Or.inr ⟨c_101, z9, Or.inr (Or.inl ⟨by omega, f3⟩)⟩))) | exact am_reti dX8_dayOf_189 rfl (hq _ _ d0 (Or.inr (Or.inr ⟨c_101, z9, Or.inr (Or.inr (Or.inl ⟨by omega, f4⟩))⟩))) | fail
        · refine am_aload_n (pc' := 155) dX8_dayOf_154 rfl rfl rfl ?_
          refine am_callVp (pc' := 158) (as := []) (ci := 7)  rfl dX8_dayOf_155 rfl ok_X8_sumNow ml_X8_212 im_X8_sumNow se_X8_sumNow rfl (Nat.le_of_ble_eq_true rfl) rfl (Nat.le_of_ble_eq_true rfl) (by first | assumption | exact ⟨by omega, by omega, rfl⟩) (t8_sumNow hM hA1 (hn1 z9)) ?_
          refine am_goto (pc' := 189) dX8_dayOf_158 rfl ?_
          first | (obtain ⟨rfl, y1, y2, v, rfl, y3⟩ := q_186; unfold md_nx md_row at y3; rw [g1, g2, g3] at y3; refine am_reti dX8_dayOf_189 rfl (hq _ _ (md_dfr_fr d0 y1 y2) (Or.inr (Or.inr ⟨c_101, z9, Or.inr (Or.inr (Or.inr (Or.inl ⟨by omega, ?_⟩)))⟩))); rw [← mt_cd_eq (f := h1 40) (g := F) (fun p p0 p1 => f1 p p0 (by omega))]; exact y3) | exact am_reti dX8_dayOf_189 rfl (hq _ _ d0 (Or.inr (Or.inr ⟨c_101, z9, Or.inl ⟨by omega, by rw [g1]; exact mt_sum_eq (fun p p0 p1 => f1 p p0 (by omega))⟩⟩))) | exact am_reti dX8_dayOf_189 rfl (hq _ _ d0 (Or.inr (Or.inr ⟨c_101, z9, Or.inr (Or.inl ⟨by omega, f3⟩)⟩))) | exact am_reti dX8_dayOf_189 rfl (hq _ _ d0 (Or.inr (Or.inr ⟨c_101, z9, Or.inr (Or.inr (Or.inl ⟨by omega, f4⟩))⟩))) | fail
      · refine am_aload_n (pc' := 125) dX8_dayOf_124 rfl rfl rfl ?_
        refine am_iload_n (pc' := 126) dX8_dayOf_125 rfl rfl rfl ?_
        refine am_bipush (pc' := 128) dX8_dayOf_126 rfl rfl (by decide) ?_
        refine am_isub (pc' := 129) dX8_dayOf_128 rfl ⟨by omega, by omega⟩ ?_
        refine am_callVp (pc' := 132) (as := [_]) (ci := 7)  rfl dX8_dayOf_129 rfl ok_X8_noPlace ml_X8_149 im_X8_noPlace se_X8_noPlace rfl (Nat.le_of_ble_eq_true rfl) rfl (Nat.le_of_ble_eq_true rfl) (by first | assumption | exact ⟨by omega, by omega, rfl⟩) (t8_noPlace hM (by rw [g1]; omega)) ?_
        refine am_if_eq (pc' := 135) (tgt := 140) dX8_dayOf_132 rfl rfl (fun c_132 => ?_) (fun c_132 => ?_)
        · simp only [am_z0, am_z1, ne_eq] at c_132
          rw [g1] at c_132
          refine am_aload_n (pc' := 141) dX8_dayOf_140 rfl rfl rfl ?_
          refine am_getRk (ki := 5) (pc' := 144) (k := 5) (ci := 7) rfl dX8_dayOf_141 rfl fl_X8_13 (by first | assumption | exact ⟨by omega, by omega, rfl⟩) rfl (by assumption) (by omega) ?_
          refine am_iload_n (pc' := 145) dX8_dayOf_144 rfl rfl rfl ?_
          refine am_bipush (pc' := 147) dX8_dayOf_145 rfl rfl (by decide) ?_
          refine am_isub (pc' := 148) dX8_dayOf_147 rfl ⟨by omega, by omega⟩ ?_
          refine am_iaload (pc' := 149) dX8_dayOf_148 rfl (by first | assumption | exact ⟨by omega, by omega, rfl⟩) (by omega) (by omega) ?_
          refine am_reti dX8_dayOf_149 rfl ?_
          first | exact hq _ _ d0 (Or.inr (Or.inr ⟨c_101, z9, Or.inr (Or.inr (Or.inr (Or.inr ⟨by omega, by rw [if_neg (by omega)]⟩)))⟩)) | exact hq _ _ d0 (Or.inr (Or.inr ⟨c_101, z9, Or.inr (Or.inr (Or.inr (Or.inr ⟨by omega, by rw [if_pos (by omega)]; exact f1 _ (by omega) (by omega)⟩)))⟩)) | fail
        · simp only [am_z0, am_z1, ne_eq] at c_132
          rw [g1] at c_132
          refine am_bipush (pc' := 137) dX8_dayOf_135 rfl rfl (by decide) ?_
          refine am_goto (pc' := 149) dX8_dayOf_137 rfl ?_
          refine am_reti dX8_dayOf_149 rfl ?_
          first | exact hq _ _ d0 (Or.inr (Or.inr ⟨c_101, z9, Or.inr (Or.inr (Or.inr (Or.inr ⟨by omega, by rw [if_neg (by omega)]⟩)))⟩)) | exact hq _ _ d0 (Or.inr (Or.inr ⟨c_101, z9, Or.inr (Or.inr (Or.inr (Or.inr ⟨by omega, by rw [if_pos (by omega)]; exact f1 _ (by omega) (by omega)⟩)))⟩)) | fail
    · refine am_bipush (pc' := 114) dX8_dayOf_112 rfl rfl (by decide) ?_
      refine am_iload (pc' := 116) dX8_dayOf_114 rfl rfl ?_
      refine am_isub (pc' := 117) dX8_dayOf_116 rfl ⟨by omega, by omega⟩ ?_
      refine am_reti dX8_dayOf_117 rfl ?_
      exact hq _ _ d0 (Or.inr (Or.inl ⟨c_101, by omega, rfl⟩))
  · refine am_iload (pc' := 106) dX8_dayOf_104 rfl rfl ?_
    refine am_reti dX8_dayOf_106 rfl ?_
    exact hq _ _ d0 (Or.inl ⟨c_101, rfl⟩)
