/-! the model: readings; 38/23 readings, 51 readingAt, 52 readingOf, 53 readingIs -/
def md_O (h : am_H) : Prop := 0 ≤ h 38 23 ∧ h 38 23 ≤ 8 ∧ ∀ k, 0 ≤ k → k < h 38 23 → (0 ≤ h 51 k ∧ h 51 k ≤ 99) ∧ 0 ≤ h 52 k ∧ h 52 k < h 38 1
theorem t8_isSo_l {ρ h : am_H} {x : Int} {Q : am_Q} (hM : am_LM ρ) (hA : md_A h) (hn : mt_ok (h 38 1) (h 38 2) (h 40)) (hO : md_O h) (hx : 0 ≤ x ∧ x < h 38 23) (hq : ∀ h1 v, am_fr [43, 44] h h1 → am_tf v (mt_it (h 38 1) (h 38 2) (h 39) (h 51 x).toNat (h 40) (h 52 x) = h 53 x) → Q v ρ h1) :
    ∀ (n : Nat) (s : Int) (h1 : am_H), (h 51 x - s).toNat < n → 0 ≤ s → s ≤ h 51 x → am_fr [43, 44] h h1 → mt_eq (h 38 1) (h1 43) (mt_it (h 38 1) (h 38 2) (h 39) s.toNat (h 40)) → am_WP mX8_isSo 0 0 6 [some (am_R 38), some (am_I x), some (am_I s)] [] ρ h1 Q := by
  have hn58 := hM.1
  obtain ⟨a1, a2⟩ := id hA
  have hox := hO.2.2 x hx.1 hx.2
  have h8 := hO.2.1
  have e1 := am_lm hM 38 11 43 (by decide)
  have e2 := am_lm hM 38 24 51 (by decide)
  have e3 := am_lm hM 38 25 52 (by decide)
  have e4 := am_lm hM 38 26 53 (by decide)
  have l1 := am_lm hM 43 (-1) 5 (by decide)
  have l2 := am_lm hM 51 (-1) 8 (by decide)
  have l3 := am_lm hM 52 (-1) 8 (by decide)
  have l4 := am_lm hM 53 (-1) 8 (by decide)
  intro n
  induction n with
  | zero => intro s h1 hk; omega
  | succ n ih =>
    intro s h1 hk h0 h9 hf hr
    have g1 : ∀ k, h1 38 k = h 38 k := fun k => hf 38 k (by simp <;> omega)
    have g3 : h1 39 = h 39 := funext fun k => hf 39 k (by simp <;> omega)
    have g5 : h1 51 x = h 51 x := hf 51 x (by simp <;> omega)
    have g6 : h1 52 x = h 52 x := hf 52 x (by simp <;> omega)
    have g7 : h1 53 x = h 53 x := hf 53 x (by simp <;> omega)
    have hA1 : md_A h1 := by unfold md_A; rw [g1, g1]; exact hA
    have hn1 : mt_ok (h1 38 1) (h1 38 2) (h1 43) := fun p p0 p1 => by
      rw [g1] at p1
      rw [hr p p0 p1, g1]
      exact mt_it_in a1.1 hn _ p p0 p1
    have hend : s = h 51 x → h1 43 (h 52 x) = mt_it (h 38 1) (h 38 2) (h 39) (h 51 x).toNat (h 40) (h 52 x) := fun z => by
      rw [← z]; exact hr _ hox.2.1 hox.2.2
    refine am_iload_n (pc' := 7) dX8_isSo_6 rfl rfl rfl ?_
    refine am_aload_n (pc' := 8) dX8_isSo_7 rfl rfl rfl ?_
    refine am_getRk (ki := 24) (pc' := 11) (k := 24) (ci := 7) rfl dX8_isSo_8 rfl fl_X8_46 (by first | assumption | exact ⟨by omega, by omega, rfl⟩) rfl (by assumption) (by omega) ?_
    refine am_iload_n (pc' := 12) dX8_isSo_11 rfl rfl rfl ?_
    refine am_iaload (pc' := 13) dX8_isSo_12 rfl (by first | assumption | exact ⟨by omega, by omega, rfl⟩) (by omega) (by omega) ?_
    refine am_icmp_ge (pc' := 16) (tgt := 26) dX8_isSo_13 rfl rfl (fun c_13 => ?_) (fun c_13 => ?_)
    · refine am_aload_n (pc' := 27) dX8_isSo_26 rfl rfl rfl ?_
      refine am_getRk (ki := 11) (pc' := 30) (k := 11) (ci := 7) rfl dX8_isSo_27 rfl fl_X8_22 (by first | assumption | exact ⟨by omega, by omega, rfl⟩) rfl (by assumption) (by omega) ?_
      refine am_aload_n (pc' := 31) dX8_isSo_30 rfl rfl rfl ?_
      refine am_getRk (ki := 25) (pc' := 34) (k := 25) (ci := 7) rfl dX8_isSo_31 rfl fl_X8_49 (by first | assumption | exact ⟨by omega, by omega, rfl⟩) rfl (by assumption) (by omega) ?_
      refine am_iload_n (pc' := 35) dX8_isSo_34 rfl rfl rfl ?_
      refine am_iaload (pc' := 36) dX8_isSo_35 rfl (by first | assumption | exact ⟨by omega, by omega, rfl⟩) (by omega) (by omega) ?_
      rw [g6]
      refine am_iaload (pc' := 37) dX8_isSo_36 rfl (by first | assumption | exact ⟨by omega, by omega, rfl⟩) (by omega) (by omega) ?_
      have he := hend (by omega)
      rw [he]
      refine am_aload_n (pc' := 38) dX8_isSo_37 rfl rfl rfl ?_
      refine am_getRk (ki := 26) (pc' := 41) (k := 26) (ci := 7) rfl dX8_isSo_38 rfl fl_X8_52 (by first | assumption | exact ⟨by omega, by omega, rfl⟩) rfl (by assumption) (by omega) ?_
      refine am_iload_n (pc' := 42) dX8_isSo_41 rfl rfl rfl ?_
      refine am_iaload (pc' := 43) dX8_isSo_42 rfl (by first | assumption | exact ⟨by omega, by omega, rfl⟩) (by omega) (by omega) ?_
      rw [g7]
      refine am_icmp_ne (pc' := 46) (tgt := 50) dX8_isSo_43 rfl rfl (fun c_43 => ?_) (fun c_43 => ?_)
      · refine am_iconst (pc' := 51) dX8_isSo_50 rfl rfl ?_
        refine am_retz dX8_isSo_51 rfl (by first | exact Or.inl rfl | exact Or.inr rfl | omega) ?_
        first | exact hq h1 _ hf (Or.inl ⟨rfl, c_43⟩) | exact hq h1 _ hf (Or.inr ⟨rfl, c_43⟩) | fail
      · refine am_iconst (pc' := 47) dX8_isSo_46 rfl rfl ?_
        refine am_goto (pc' := 51) dX8_isSo_47 rfl ?_
        refine am_retz dX8_isSo_51 rfl (by first | exact Or.inl rfl | exact Or.inr rfl | omega) ?_
        first | exact hq h1 _ hf (Or.inl ⟨rfl, c_43⟩) | exact hq h1 _ hf (Or.inr ⟨rfl, c_43⟩) | fail
    · refine am_aload_n (pc' := 17) dX8_isSo_16 rfl rfl rfl ?_
      refine am_callV0 (pc' := 20) (as := []) (ci := 7)  rfl dX8_isSo_17 rfl ok_X8_stepsOnce ml_X8_155 im_X8_stepsOnce se_X8_stepsOnce rfl (Nat.le_of_ble_eq_true rfl) rfl (Nat.le_of_ble_eq_true rfl) (by first | assumption | exact ⟨by omega, by omega, rfl⟩) (t8_stepsOnce (h := h1) hM hA1 hn1) (fun r_17 ρ_17 h_17 q_17 g_17 e_17 => ?_)
      obtain ⟨rfl, rfl, q1, q2⟩ := q_17
      refine am_iinc (pc' := 23) (ls' := [_, _, _]) dX8_isSo_20 rfl rfl ⟨by omega, by omega⟩ (Nat.le_of_ble_eq_true rfl) rfl rfl ?_
      refine am_goto (pc' := 6) dX8_isSo_23 rfl ?_
      refine ih _ _ (by omega) (by omega) (by omega) (am_fr_trans hf q1) (fun p p0 p1 => ?_)
      rw [q2 p p0 (by rw [g1]; exact p1), g1, g1, g3, show (s + 1).toNat = s.toNat + 1 by omega]
      exact mt_st_eq a1.1 (fun _ _ _ => rfl) hr p p0 p1
theorem t8_isSo {ρ h : am_H} {x : Int} (hM : am_LM ρ) (hA : md_A h) (hn : mt_ok (h 38 1) (h 38 2) (h 40)) (hO : md_O h) (hx : 0 ≤ x ∧ x < h 38 23) : am_CT mX8_isSo 0 0 [am_R 38, am_I x] ρ h (fun r ρ' h' => ρ' = ρ ∧ am_fr [43, 44] h h' ∧ am_tf r (mt_it (h 38 1) (h 38 2) (h 39) (h 51 x).toNat (h 40) (h 52 x) = h 53 x)) := by
  have hn58 := hM.1
  have a1 := hA.1
  have hox := (hO.2.2 x hx.1 hx.2).1
  refine am_ct (ls := [some (am_R 38), some (am_I x), none]) ok_X8_isSo rfl (fun _ => Nat.le_of_ble_eq_true rfl) (fun _ => rfl) (by intro v hv; simpa using hv) ?_
  refine am_aload_n (pc' := 1) dX8_isSo_0 rfl rfl rfl ?_
  refine am_callV0 (pc' := 4) (as := []) (ci := 7)  rfl dX8_isSo_1 rfl ok_X8_takesNow ml_X8_142 im_X8_takesNow se_X8_takesNow rfl (Nat.le_of_ble_eq_true rfl) rfl (Nat.le_of_ble_eq_true rfl) (by first | assumption | exact ⟨by omega, by omega, rfl⟩) (t8_takesNow hM (by omega)) (fun r_1 ρ_1 h_1 q_1 g_1 e_1 => ?_)
  obtain ⟨rfl, rfl, q1, q2⟩ := q_1
  refine am_iconst (pc' := 5) dX8_isSo_4 rfl rfl ?_
  refine am_istore_n (pc' := 6) (ls' := [_, _, _]) dX8_isSo_5 rfl rfl (Nat.le_of_ble_eq_true rfl) rfl rfl ?_
  exact t8_isSo_l hM hA hn hO hx (fun h1 v a b => ⟨rfl, a, b⟩) ((h 51 x).toNat + 1) 0 _ (by omega) (by omega) (by omega) (am_fr_sub q1 (by intro x hx; simp at hx ⊢; omega)) (fun p p0 p1 => q2 p p0 p1)
theorem t8_areSo_l {ρ h : am_H} {Q : am_Q} (hM : am_LM ρ) (hA : md_A h) (hn : mt_ok (h 38 1) (h 38 2) (h 40)) (hO : md_O h) (hq : ∀ h1 v, am_fr [43, 44] h h1 → am_tf v (so_g (h 38 23) (h 51) (h 52) (h 53) (h 38 1) (h 38 2) (h 39) (h 40)) → Q v ρ h1) :
    ∀ (n : Nat) (x a : Int) (h1 : am_H), (h 38 23 - x).toNat < n → 0 ≤ x → x ≤ h 38 23 → am_fr [43, 44] h h1 → ((a = 1 ∧ so_g x (h 51) (h 52) (h 53) (h 38 1) (h 38 2) (h 39) (h 40)) ∨ (a = 0 ∧ ¬ so_g x (h 51) (h 52) (h 53) (h 38 1) (h 38 2) (h 39) (h 40))) → am_WP mX8_areSo 0 0 4 [some (am_R 38), some (am_I a), some (am_I x)] [] ρ h1 Q := by
  have hn58 := hM.1
  have h8 := hO.2.1
  intro n
  induction n with
  | zero => intro x a h1 hk; omega
  | succ n ih =>
    intro x a h1 hk h0 h9 hf ha
    have g1 : ∀ k, h1 38 k = h 38 k := fun k => hf 38 k (by simp <;> omega)
    have gg : ∀ y, y = 39 ∨ y = 40 ∨ y = 51 ∨ y = 52 ∨ y = 53 → h1 y = h y := fun y hy => funext fun k => hf y k (by simp <;> omega)
    have hA1 : md_A h1 := by unfold md_A; rw [g1, g1]; exact hA
    have hn1 : mt_ok (h1 38 1) (h1 38 2) (h1 40) := by rw [g1, g1, gg 40 (by omega)]; exact hn
    have hO1 : md_O h1 := by unfold md_O; rw [g1, g1, gg 51 (by omega), gg 52 (by omega)]; exact hO
    have gx := g1 23
    have K29 : ∀ a' h2, x < h 38 23 → am_fr [43, 44] h h2 → ((a' = 1 ∧ so_g (x + 1) (h 51) (h 52) (h 53) (h 38 1) (h 38 2) (h 39) (h 40)) ∨ (a' = 0 ∧ ¬ so_g (x + 1) (h 51) (h 52) (h 53) (h 38 1) (h 38 2) (h 39) (h 40))) → am_WP mX8_areSo 0 0 29 [some (am_R 38), some (am_I a), some (am_I x)] [am_I a'] ρ h2 Q := by
      intro a' h2 hx2 hf2 ha2
      refine am_istore_n (pc' := 30) (ls' := [_, _, _]) dX8_areSo_29 rfl rfl (Nat.le_of_ble_eq_true rfl) rfl rfl ?_
      refine am_iinc (pc' := 33) (ls' := [_, _, _]) dX8_areSo_30 rfl rfl ⟨by omega, by omega⟩ (Nat.le_of_ble_eq_true rfl) rfl rfl ?_
      refine am_goto (pc' := 4) dX8_areSo_33 rfl ?_
      exact ih _ _ _ (by omega) (by omega) (by omega) hf2 ha2
    have c1 : a ≠ 0 → so_g x (h 51) (h 52) (h 53) (h 38 1) (h 38 2) (h 39) (h 40) := fun z => by
      rcases ha with y | y
      · exact y.2
      · exact absurd y.1 z
    have c0 : a = 0 → ¬ so_g (x + 1) (h 51) (h 52) (h 53) (h 38 1) (h 38 2) (h 39) (h 40) := fun z => by
      rcases ha with y | y
      · exact absurd (z.symm.trans y.1) (by decide)
      · exact fun w => y.2 (fun k k0 k1 => w k k0 (by omega))
    have hend : x = h 38 23 → am_tf (some (am_I a)) (so_g (h 38 23) (h 51) (h 52) (h 53) (h 38 1) (h 38 2) (h 39) (h 40)) := fun z => by
      rw [← z]
      rcases ha with y | y
      · exact Or.inl ⟨by rw [y.1], y.2⟩
      · exact Or.inr ⟨by rw [y.1], y.2⟩
    have hab : a = 0 ∨ a = 1 := by
      rcases ha with y | y
      · exact Or.inr y.1
      · exact Or.inl y.1
    clear ha
    refine am_iload_n (pc' := 5) dX8_areSo_4 rfl rfl rfl ?_
    refine am_aload_n (pc' := 6) dX8_areSo_5 rfl rfl rfl ?_
    refine am_getIk (ki := 23) (pc' := 9) (k := 23) (ci := 7) rfl dX8_areSo_6 rfl fl_X8_133 (by first | assumption | exact ⟨by omega, by omega, rfl⟩) rfl ?_
    refine am_icmp_ge (pc' := 12) (tgt := 36) dX8_areSo_9 rfl rfl (fun c_9 => ?_) (fun c_9 => ?_)
    · refine am_iload_n (pc' := 37) dX8_areSo_36 rfl rfl rfl ?_
      refine am_retz dX8_areSo_37 rfl hab ?_
      exact hq h1 _ hf (hend (by omega))
    · refine am_iload_n (pc' := 13) dX8_areSo_12 rfl rfl rfl ?_
      refine am_if_eq (pc' := 16) (tgt := 28) dX8_areSo_13 rfl rfl (fun c_13 => ?_) (fun c_13 => ?_)
      · refine am_iconst (pc' := 29) dX8_areSo_28 rfl rfl ?_
        first | exact K29 0 _ (by omega) hf (Or.inr ⟨rfl, c0 c_13⟩) | exact K29 0 _ (by omega) wf (Or.inr ⟨rfl, fun z => wA (z x h0 (by omega))⟩) | exact K29 1 _ (by omega) wf (Or.inl ⟨rfl, am_upto (c1 c_13) wA⟩) | (exfalso; omega) | fail
      · refine am_aload_n (pc' := 17) dX8_areSo_16 rfl rfl rfl ?_
        refine am_iload_n (pc' := 18) dX8_areSo_17 rfl rfl rfl ?_
        refine am_callV0 (pc' := 21) (as := [_]) (ci := 7)  rfl dX8_areSo_18 rfl ok_X8_isSo ml_X8_243 im_X8_isSo se_X8_isSo rfl (Nat.le_of_ble_eq_true rfl) rfl (Nat.le_of_ble_eq_true rfl) (by first | assumption | exact ⟨by omega, by omega, rfl⟩) (t8_isSo (h := h1) hM hA1 hn1 hO1 (by omega)) (fun r_18 ρ_18 h_18 q_18 g_18 e_18 => ?_)
        obtain ⟨rfl, w1, w2⟩ := q_18
        rw [g1, g1, gg 39 (by omega), gg 40 (by omega), gg 51 (by omega), gg 52 (by omega), gg 53 (by omega)] at w2
        have wf : am_fr [43, 44] h h_18 := am_fr_trans hf w1
        unfold am_tf at w2
        rcases w2 with ⟨rfl, wA⟩ | ⟨rfl, wA⟩
        · refine am_if_eq (pc' := 24) (tgt := 28) dX8_areSo_21 rfl rfl (fun c_21 => ?_) (fun c_21 => ?_)
          · refine am_iconst (pc' := 29) dX8_areSo_28 rfl rfl ?_
            first | exact K29 0 _ (by omega) hf (Or.inr ⟨rfl, c0 c_13⟩) | exact K29 0 _ (by omega) wf (Or.inr ⟨rfl, fun z => wA (z x h0 (by omega))⟩) | exact K29 1 _ (by omega) wf (Or.inl ⟨rfl, am_upto (c1 c_13) wA⟩) | (exfalso; omega) | fail
          · refine am_iconst (pc' := 25) dX8_areSo_24 rfl rfl ?_
            refine am_goto (pc' := 29) dX8_areSo_25 rfl ?_
            first | exact K29 0 _ (by omega) hf (Or.inr ⟨rfl, c0 c_13⟩) | exact K29 0 _ (by omega) wf (Or.inr ⟨rfl, fun z => wA (z x h0 (by omega))⟩) | exact K29 1 _ (by omega) wf (Or.inl ⟨rfl, am_upto (c1 c_13) wA⟩) | (exfalso; omega) | fail
        · refine am_if_eq (pc' := 24) (tgt := 28) dX8_areSo_21 rfl rfl (fun c_21 => ?_) (fun c_21 => ?_)
          · refine am_iconst (pc' := 29) dX8_areSo_28 rfl rfl ?_
            first | exact K29 0 _ (by omega) hf (Or.inr ⟨rfl, c0 c_13⟩) | exact K29 0 _ (by omega) wf (Or.inr ⟨rfl, fun z => wA (z x h0 (by omega))⟩) | exact K29 1 _ (by omega) wf (Or.inl ⟨rfl, am_upto (c1 c_13) wA⟩) | (exfalso; omega) | fail
          · refine am_iconst (pc' := 25) dX8_areSo_24 rfl rfl ?_
            refine am_goto (pc' := 29) dX8_areSo_25 rfl ?_
            first | exact K29 0 _ (by omega) hf (Or.inr ⟨rfl, c0 c_13⟩) | exact K29 0 _ (by omega) wf (Or.inr ⟨rfl, fun z => wA (z x h0 (by omega))⟩) | exact K29 1 _ (by omega) wf (Or.inl ⟨rfl, am_upto (c1 c_13) wA⟩) | (exfalso; omega) | fail
theorem t8_areSo {ρ h : am_H} (hM : am_LM ρ) (hA : md_A h) (hn : mt_ok (h 38 1) (h 38 2) (h 40)) (hO : md_O h) : am_CT mX8_areSo 0 0 [am_R 38] ρ h (fun r ρ' h' => ρ' = ρ ∧ am_fr [43, 44] h h' ∧ am_tf r (so_g (h 38 23) (h 51) (h 52) (h 53) (h 38 1) (h 38 2) (h 39) (h 40))) := by
  have h8 := hO.1
  refine am_ct (ls := [some (am_R 38), none, none]) ok_X8_areSo rfl (fun _ => Nat.le_of_ble_eq_true rfl) (fun _ => rfl) (by intro v hv; simpa using hv) ?_
  refine am_iconst (pc' := 1) dX8_areSo_0 rfl rfl ?_
  refine am_istore_n (pc' := 2) (ls' := [_, _, _]) dX8_areSo_1 rfl rfl (Nat.le_of_ble_eq_true rfl) rfl rfl ?_
  refine am_iconst (pc' := 3) dX8_areSo_2 rfl rfl ?_
  refine am_istore_n (pc' := 4) (ls' := [_, _, _]) dX8_areSo_3 rfl rfl (Nat.le_of_ble_eq_true rfl) rfl rfl ?_
  exact t8_areSo_l hM hA hn hO (fun h1 v a b => ⟨rfl, a, b⟩) ((h 38 23).toNat + 1) 0 1 h (by omega) (by omega) (by omega) am_fr_refl (Or.inl ⟨rfl, fun k k0 k1 => by omega⟩)
theorem t8_back {ρ h : am_H} {k : Int} (hM : am_LM ρ) (hO : 0 ≤ h 38 23 ∧ h 38 23 ≤ 8) : am_CT mX8_back 0 0 [am_R 38, am_I k] ρ h (fun r ρ' h' => ρ' = ρ ∧ ((¬ (0 ≤ k ∧ k ≤ h 38 23) ∧ r = some (am_I (-2)) ∧ h' = h) ∨ ((0 ≤ k ∧ k ≤ h 38 23) ∧ r = some (am_I (h 38 23 - k)) ∧ h' = am_u h 38 23 (h 38 23 - k)))) := by
  have hn58 := hM.1
  refine am_ct (ls := [some (am_R 38), some (am_I k)]) ok_X8_back rfl (fun _ => Nat.le_of_ble_eq_true rfl) (fun _ => rfl) (by intro v hv; simpa using hv) ?_
  refine am_iload_n (pc' := 1) dX8_back_0 rfl rfl rfl ?_
  refine am_i2l (pc' := 2) dX8_back_1 rfl ?_
  refine am_lconst0 (pc' := 3) dX8_back_2 rfl ?_
  refine am_aload_n (pc' := 4) dX8_back_3 rfl rfl rfl ?_
  refine am_getIk (ki := 23) (pc' := 7) (k := 23) (ci := 7) rfl dX8_back_4 rfl fl_X8_133 (by first | assumption | exact ⟨by omega, by omega, rfl⟩) rfl ?_
  refine am_i2l (pc' := 8) dX8_back_7 rfl ?_
  refine am_callSp (pc' := 11) (as := [_, _, _])  rfl dX8_back_8 rfl ok_X8_in ml_X8_80 sm_X8_in (Nat.le_of_ble_eq_true rfl) rfl (Nat.le_of_ble_eq_true rfl) (t8_in) ?_
  refine am_if_ne (pc' := 14) (tgt := 17) dX8_back_11 rfl rfl (fun c_11 => ?_) (fun c_11 => ?_)
  · simp only [am_z0, am_z1, ne_eq] at c_11
    refine am_aload_n (pc' := 18) dX8_back_17 rfl rfl rfl ?_
    first | refine am_dupR (pc' := 19) dX8_back_18 rfl ?_ | refine am_dupI (pc' := 19) dX8_back_18 rfl ?_
    refine am_getIk (ki := 23) (pc' := 22) (k := 23) (ci := 7) rfl dX8_back_19 rfl fl_X8_133 (by first | assumption | exact ⟨by omega, by omega, rfl⟩) rfl ?_
    refine am_iload_n (pc' := 23) dX8_back_22 rfl rfl rfl ?_
    refine am_isub (pc' := 24) dX8_back_23 rfl ⟨by omega, by omega⟩ ?_
    refine am_putIk (ki := 23) (pc' := 27) (k := 23) (ci := 7) rfl dX8_back_24 rfl fl_X8_133 (by first | assumption | exact ⟨by omega, by omega, rfl⟩) rfl (fun _ _ _ e => by cases e; rfl) ?_
    refine am_aload_n (pc' := 28) dX8_back_27 rfl rfl rfl ?_
    refine am_getIk (ki := 23) (pc' := 31) (k := 23) (ci := 7) rfl dX8_back_28 rfl fl_X8_133 (by first | assumption | exact ⟨by omega, by omega, rfl⟩) rfl ?_
    refine am_reti dX8_back_31 rfl ?_
    exact ⟨rfl, Or.inr ⟨by omega, by rw [am_u_s], rfl⟩⟩
  · simp only [am_z0, am_z1, ne_eq] at c_11
    refine am_bipush (pc' := 16) dX8_back_14 rfl rfl (by decide) ?_
    refine am_reti dX8_back_16 rfl ?_
    exact ⟨rfl, Or.inl ⟨by omega, rfl, rfl⟩⟩
