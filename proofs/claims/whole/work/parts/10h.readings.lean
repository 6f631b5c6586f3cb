/-! Readings: cell 33, rows 34 (time), 35 (place), 36 (number) -/
def rd_OK (h : am_H) (P : Int) : Prop := 0 ≤ h 33 3 ∧ h 33 3 ≤ 8 ∧ ∀ k, 0 ≤ k → k < h 33 3 → 0 ≤ h 34 k ∧ h 34 k ≤ 99 ∧ 0 ≤ h 35 k ∧ h 35 k < P
theorem t_keep {ρ h : am_H} {t p v : Int} (hL : am_LC ρ) (hc : 0 ≤ h 33 3 ∧ h 33 3 ≤ 8) : am_CT mX2_keep 0 0 [am_R 33, am_I t, am_I p, am_I v] ρ h (fun r ρ' h' => ρ' = ρ ∧ ((h 33 3 = 8 ∧ r = some (am_I (-4)) ∧ h' = h) ∨ (h 33 3 < 8 ∧ r = some (am_I (h 33 3)) ∧ am_fr [33, 34, 35, 36] h h' ∧ h' 33 3 = h 33 3 + 1 ∧ h' 34 (h 33 3) = t ∧ h' 35 (h 33 3) = p ∧ h' 36 (h 33 3) = v ∧ ∀ k, 0 ≤ k → k < h 33 3 → h' 34 k = h 34 k ∧ h' 35 k = h 35 k ∧ h' 36 k = h 36 k))) := by
  have hn := hL.1
  have e0 := am_lc hL 33 0 34 (by decide)
  have e1 := am_lc hL 33 1 35 (by decide)
  have e2 := am_lc hL 33 2 36 (by decide)
  have l0 := am_lc hL 34 (-1) 8 (by decide)
  have l1 := am_lc hL 35 (-1) 8 (by decide)
  have l2 := am_lc hL 36 (-1) 8 (by decide)
  have u1 : ∀ (g : am_H) a b w, a ≠ 33 → am_u g a b w 33 3 = g 33 3 := fun g a b w z => am_u_n (by omega)
  refine am_ct (ls := [some (am_R 33), some (am_I t), some (am_I p), some (am_I v)]) ok_X2_keep rfl (fun _ => Nat.le_of_ble_eq_true rfl) (fun _ => rfl) (by intro v hv; simpa using hv) ?_
  refine am_aload_n (pc' := 1) dX2_keep_0 rfl rfl rfl ?_
  refine am_getIk (ki := 3) (pc' := 4) (k := 3) (ci := 2) rfl dX2_keep_1 rfl fl_X2_21 (by first | assumption | exact ⟨by omega, by omega, rfl⟩) rfl ?_
  refine am_bipush (pc' := 6) dX2_keep_4 rfl rfl (by decide) ?_
  refine am_icmp_lt (pc' := 9) (tgt := 12) dX2_keep_6 rfl rfl (fun c_6 => ?_) (fun c_6 => ?_)
  · refine am_aload_n (pc' := 13) dX2_keep_12 rfl rfl rfl ?_
    refine am_getRk (ki := 0) (pc' := 16) (k := 0) (ci := 2) rfl dX2_keep_13 rfl fl_X2_9 (by first | assumption | exact ⟨by omega, by omega, rfl⟩) rfl (by assumption) (by omega) ?_
    refine am_aload_n (pc' := 17) dX2_keep_16 rfl rfl rfl ?_
    refine am_getIk (ki := 3) (pc' := 20) (k := 3) (ci := 2) rfl dX2_keep_17 rfl fl_X2_21 (by first | assumption | exact ⟨by omega, by omega, rfl⟩) rfl ?_
    refine am_iload_n (pc' := 21) dX2_keep_20 rfl rfl rfl ?_
    refine am_iastore (pc' := 22) dX2_keep_21 rfl (by first | assumption | exact ⟨by omega, by omega, rfl⟩) (by omega) (by omega) ?_
    refine am_aload_n (pc' := 23) dX2_keep_22 rfl rfl rfl ?_
    refine am_getRk (ki := 1) (pc' := 26) (k := 1) (ci := 2) rfl dX2_keep_23 rfl fl_X2_15 (by first | assumption | exact ⟨by omega, by omega, rfl⟩) rfl (by assumption) (by omega) ?_
    refine am_aload_n (pc' := 27) dX2_keep_26 rfl rfl rfl ?_
    refine am_getIk (ki := 3) (pc' := 30) (k := 3) (ci := 2) rfl dX2_keep_27 rfl fl_X2_21 (by first | assumption | exact ⟨by omega, by omega, rfl⟩) rfl ?_
    rw [u1 _ _ _ _ (by decide)]
    refine am_iload_n (pc' := 31) dX2_keep_30 rfl rfl rfl ?_
    refine am_iastore (pc' := 32) dX2_keep_31 rfl (by first | assumption | exact ⟨by omega, by omega, rfl⟩) (by omega) (by omega) ?_
    refine am_aload_n (pc' := 33) dX2_keep_32 rfl rfl rfl ?_
    refine am_getRk (ki := 2) (pc' := 36) (k := 2) (ci := 2) rfl dX2_keep_33 rfl fl_X2_18 (by first | assumption | exact ⟨by omega, by omega, rfl⟩) rfl (by assumption) (by omega) ?_
    refine am_aload_n (pc' := 37) dX2_keep_36 rfl rfl rfl ?_
    refine am_getIk (ki := 3) (pc' := 40) (k := 3) (ci := 2) rfl dX2_keep_37 rfl fl_X2_21 (by first | assumption | exact ⟨by omega, by omega, rfl⟩) rfl ?_
    rw [u1 _ _ _ _ (by decide), u1 _ _ _ _ (by decide)]
    refine am_iload_n (pc' := 41) dX2_keep_40 rfl rfl rfl ?_
    refine am_iastore (pc' := 42) dX2_keep_41 rfl (by first | assumption | exact ⟨by omega, by omega, rfl⟩) (by omega) (by omega) ?_
    refine am_aload_n (pc' := 43) dX2_keep_42 rfl rfl rfl ?_
    first | refine am_dupR (pc' := 44) dX2_keep_43 rfl ?_ | refine am_dupI (pc' := 44) dX2_keep_43 rfl ?_
    refine am_getIk (ki := 3) (pc' := 47) (k := 3) (ci := 2) rfl dX2_keep_44 rfl fl_X2_21 (by first | assumption | exact ⟨by omega, by omega, rfl⟩) rfl ?_
    rw [u1 _ _ _ _ (by decide), u1 _ _ _ _ (by decide), u1 _ _ _ _ (by decide)]
    refine am_iconst (pc' := 48) dX2_keep_47 rfl rfl ?_
    refine am_iadd (pc' := 49) dX2_keep_48 rfl ⟨by omega, by omega⟩ ?_
    refine am_putIk (ki := 3) (pc' := 52) (k := 3) (ci := 2) rfl dX2_keep_49 rfl fl_X2_21 (by first | assumption | exact ⟨by omega, by omega, rfl⟩) rfl (fun _ _ _ e => by cases e; rfl) ?_
    refine am_aload_n (pc' := 53) dX2_keep_52 rfl rfl rfl ?_
    refine am_getIk (ki := 3) (pc' := 56) (k := 3) (ci := 2) rfl dX2_keep_53 rfl fl_X2_21 (by first | assumption | exact ⟨by omega, by omega, rfl⟩) rfl ?_
    rw [am_u_s]
    refine am_iconst (pc' := 57) dX2_keep_56 rfl rfl ?_
    refine am_isub (pc' := 58) dX2_keep_57 rfl ⟨by omega, by omega⟩ ?_
    refine am_reti dX2_keep_58 rfl ?_
    refine ⟨rfl, Or.inr ⟨by omega, by congr 2; omega, am_fr_u (am_fr_u (am_fr_u (am_fr_u am_fr_refl (by simp <;> omega)) (by simp <;> omega)) (by simp <;> omega)) (by simp <;> omega), am_u_s _ _ _ _, ?_, ?_, ?_, fun k z0 z1 => ⟨?_, ?_, ?_⟩⟩⟩
    · rw [am_u_n (by omega), am_u_n (by omega), am_u_n (by omega), am_u_s]
    · rw [am_u_n (by omega), am_u_n (by omega), am_u_s]
    · rw [am_u_n (by omega), am_u_s]
    · rw [am_u_n (by omega), am_u_n (by omega), am_u_n (by omega), am_u_n (by omega)]
    · rw [am_u_n (by omega), am_u_n (by omega), am_u_n (by omega), am_u_n (by omega)]
    · rw [am_u_n (by omega), am_u_n (by omega), am_u_n (by omega), am_u_n (by omega)]
  · refine am_bipush (pc' := 11) dX2_keep_9 rfl rfl (by decide) ?_
    refine am_reti dX2_keep_11 rfl ?_
    exact ⟨rfl, Or.inl ⟨by omega, rfl, rfl⟩⟩
theorem t_lastTime_l {ρ h : am_H} {P : Int} {Q : am_Q} (hL : am_LC ρ) (hO : rd_OK h P) (hq : ∀ m, 0 ≤ m → m ≤ 99 → (∀ k, 0 ≤ k → k < h 33 3 → h 34 k ≤ m) → Q (some (am_I m)) ρ h) : ∀ (n : Nat) (k m : Int), (h 33 3 - k).toNat < n → 0 ≤ k → k ≤ h 33 3 → 0 ≤ m → m ≤ 99 → (∀ q, 0 ≤ q → q < k → h 34 q ≤ m) → am_WP mX2_lastTime 0 0 4 [some (am_R 33), some (am_I m), some (am_I k)] [] ρ h Q := by
  have hn := hL.1
  have e0 := am_lc hL 33 0 34 (by decide)
  have l0 := am_lc hL 34 (-1) 8 (by decide)
  obtain ⟨o1, o2, o3⟩ := id hO
  intro n
  induction n with
  | zero => intro k m hk; omega
  | succ n ih =>
    intro k m hk h0 h1 m0 m1 hall
    refine am_iload_n (pc' := 5) dX2_lastTime_4 rfl rfl rfl ?_
    refine am_aload_n (pc' := 6) dX2_lastTime_5 rfl rfl rfl ?_
    refine am_getIk (ki := 3) (pc' := 9) (k := 3) (ci := 2) rfl dX2_lastTime_6 rfl fl_X2_21 (by first | assumption | exact ⟨by omega, by omega, rfl⟩) rfl ?_
    refine am_icmp_ge (pc' := 12) (tgt := 29) dX2_lastTime_9 rfl rfl (fun c_9 => ?_) (fun c_9 => ?_)
    · refine am_iload_n (pc' := 30) dX2_lastTime_29 rfl rfl rfl ?_
      refine am_reti dX2_lastTime_30 rfl ?_
      exact hq m m0 m1 (fun q z0 z1 => hall q z0 (by omega))
    · have hok := o3 k h0 (by omega)
      refine am_iload_n (pc' := 13) dX2_lastTime_12 rfl rfl rfl ?_
      refine am_aload_n (pc' := 14) dX2_lastTime_13 rfl rfl rfl ?_
      refine am_getRk (ki := 0) (pc' := 17) (k := 0) (ci := 2) rfl dX2_lastTime_14 rfl fl_X2_9 (by first | assumption | exact ⟨by omega, by omega, rfl⟩) rfl (by assumption) (by omega) ?_
      refine am_iload_n (pc' := 18) dX2_lastTime_17 rfl rfl rfl ?_
      refine am_iaload (pc' := 19) dX2_lastTime_18 rfl (by first | assumption | exact ⟨by omega, by omega, rfl⟩) (by omega) (by omega) ?_
      refine am_mmax (pc' := 22) dX2_lastTime_19 rfl ml_X2_39 (Nat.le_of_ble_eq_true rfl) (Nat.le_of_ble_eq_true rfl) ?_
      refine am_istore_n (pc' := 23) (ls' := [_, _, _]) dX2_lastTime_22 rfl rfl (Nat.le_of_ble_eq_true rfl) rfl rfl ?_
      refine am_iinc (pc' := 26) (ls' := [_, _, _]) dX2_lastTime_23 rfl rfl ⟨by omega, by omega⟩ (Nat.le_of_ble_eq_true rfl) rfl rfl ?_
      refine am_goto (pc' := 4) dX2_lastTime_26 rfl ?_
      exact ih _ _ (by omega) (by omega) (by omega) (by split <;> omega) (by split <;> omega) (am_upto (fun q z0 z1 => by have := hall q z0 z1; split <;> omega) (by split <;> omega))
theorem t_lastTime {ρ h : am_H} {P : Int} (hL : am_LC ρ) (hO : rd_OK h P) : am_CT mX2_lastTime 0 0 [am_R 33] ρ h (fun r ρ' h' => ρ' = ρ ∧ h' = h ∧ ∃ m, r = some (am_I m) ∧ 0 ≤ m ∧ m ≤ 99 ∧ ∀ k, 0 ≤ k → k < h 33 3 → h 34 k ≤ m) := by
  have o1 := hO.1
  refine am_ct (ls := [some (am_R 33), none, none]) ok_X2_lastTime rfl (fun _ => Nat.le_of_ble_eq_true rfl) (fun _ => rfl) (by intro v hv; simpa using hv) ?_
  refine am_iconst (pc' := 1) dX2_lastTime_0 rfl rfl ?_
  refine am_istore_n (pc' := 2) (ls' := [_, _, _]) dX2_lastTime_1 rfl rfl (Nat.le_of_ble_eq_true rfl) rfl rfl ?_
  refine am_iconst (pc' := 3) dX2_lastTime_2 rfl rfl ?_
  refine am_istore_n (pc' := 4) (ls' := [_, _, _]) dX2_lastTime_3 rfl rfl (Nat.le_of_ble_eq_true rfl) rfl rfl ?_
  exact t_lastTime_l hL hO (fun m a b c => ⟨rfl, rfl, m, rfl, a, b, c⟩) ((h 33 3).toNat + 1) 0 0 (by omega) (by omega) (by omega) (by omega) (by omega) (fun q z0 z1 => by omega)
theorem t_areSoAt_l {ρ h : am_H} {r t P : Int} {Q : am_Q} (hL : am_LC ρ) (hR : am_RA ρ r) (hO : rd_OK h P) (hP : P ≤ 5) (hPe : h r 1 = P) (hq : ∀ v, am_tf v (∀ k, 0 ≤ k → k < h 33 3 → h 34 k = t → h (r + 2) (h 35 k) = h 36 k) → Q v ρ h) : ∀ (n : Nat) (k : Int), (h 33 3 - k).toNat < n → 0 ≤ k → k ≤ h 33 3 → (∀ q, 0 ≤ q → q < k → h 34 q = t → h (r + 2) (h 35 q) = h 36 q) → am_WP mX2_areSoAt 0 0 2 [some (am_R 33), some (am_I t), some (am_R r), some (am_I k)] [] ρ h Q := by
  have hn := hL.1
  have e0 := am_lc hL 33 0 34 (by decide)
  have e1 := am_lc hL 33 1 35 (by decide)
  have e2 := am_lc hL 33 2 36 (by decide)
  have l0 := am_lc hL 34 (-1) 8 (by decide)
  have l1 := am_lc hL 35 (-1) 8 (by decide)
  have l2 := am_lc hL 36 (-1) 8 (by decide)
  obtain ⟨i1, i2, i3, i4, ⟨g1, g2, g3⟩, m1, m2, m3⟩ := id hR
  have r0 := i1.1
  obtain ⟨o1, o2, o3⟩ := id hO
  intro n
  induction n with
  | zero => intro k hk; omega
  | succ n ih =>
    intro k hk h0 h1 hall
    refine am_iload_n (pc' := 3) dX2_areSoAt_2 rfl rfl rfl ?_
    refine am_aload_n (pc' := 4) dX2_areSoAt_3 rfl rfl rfl ?_
    refine am_getIk (ki := 3) (pc' := 7) (k := 3) (ci := 2) rfl dX2_areSoAt_4 rfl fl_X2_21 (by first | assumption | exact ⟨by omega, by omega, rfl⟩) rfl ?_
    refine am_icmp_ge (pc' := 10) (tgt := 47) dX2_areSoAt_7 rfl rfl (fun c_7 => ?_) (fun c_7 => ?_)
    · refine am_iconst (pc' := 48) dX2_areSoAt_47 rfl rfl ?_
      refine am_retz dX2_areSoAt_48 rfl (by first | exact Or.inl rfl | exact Or.inr rfl | omega) ?_
      exact hq _ (Or.inl ⟨rfl, fun q z0 z1 => hall q z0 (by omega)⟩)
    · have hok := o3 k h0 (by omega)
      refine am_aload_n (pc' := 11) dX2_areSoAt_10 rfl rfl rfl ?_
      refine am_getRk (ki := 0) (pc' := 14) (k := 0) (ci := 2) rfl dX2_areSoAt_11 rfl fl_X2_9 (by first | assumption | exact ⟨by omega, by omega, rfl⟩) rfl (by assumption) (by omega) ?_
      refine am_iload_n (pc' := 15) dX2_areSoAt_14 rfl rfl rfl ?_
      refine am_iaload (pc' := 16) dX2_areSoAt_15 rfl (by first | assumption | exact ⟨by omega, by omega, rfl⟩) (by omega) (by omega) ?_
      refine am_iload_n (pc' := 17) dX2_areSoAt_16 rfl rfl rfl ?_
      refine am_icmp_ne (pc' := 20) (tgt := 41) dX2_areSoAt_17 rfl rfl (fun c_17 => ?_) (fun c_17 => ?_)
      · refine am_iinc (pc' := 44) (ls' := [_, _, _, _]) dX2_areSoAt_41 rfl rfl ⟨by omega, by omega⟩ (Nat.le_of_ble_eq_true rfl) rfl rfl ?_
        refine am_goto (pc' := 2) dX2_areSoAt_44 rfl ?_
        exact ih _ (by omega) (by omega) (by omega) (am_upto hall (fun z => by first | exact absurd z c_17 | exact c_36))
      · refine am_aload_n (pc' := 21) dX2_areSoAt_20 rfl rfl rfl ?_
        refine am_aload_n (pc' := 22) dX2_areSoAt_21 rfl rfl rfl ?_
        refine am_getRk (ki := 1) (pc' := 25) (k := 1) (ci := 2) rfl dX2_areSoAt_22 rfl fl_X2_15 (by first | assumption | exact ⟨by omega, by omega, rfl⟩) rfl (by assumption) (by omega) ?_
        refine am_iload_n (pc' := 26) dX2_areSoAt_25 rfl rfl rfl ?_
        refine am_iaload (pc' := 27) dX2_areSoAt_26 rfl (by first | assumption | exact ⟨by omega, by omega, rfl⟩) (by omega) (by omega) ?_
        refine am_callVp (pc' := 30) (as := [_]) (ci := 3)  rfl dX2_areSoAt_27 rfl ok_X3_numberAt ml_X2_45 im_X3_numberAt se_X3_numberAt rfl (Nat.le_of_ble_eq_true rfl) rfl (Nat.le_of_ble_eq_true rfl) (by first | assumption | exact ⟨by omega, by omega, rfl⟩) (t_numberAt hR (by omega)) ?_
        rw [if_pos (by omega)]
        refine am_aload_n (pc' := 31) dX2_areSoAt_30 rfl rfl rfl ?_
        refine am_getRk (ki := 2) (pc' := 34) (k := 2) (ci := 2) rfl dX2_areSoAt_31 rfl fl_X2_18 (by first | assumption | exact ⟨by omega, by omega, rfl⟩) rfl (by assumption) (by omega) ?_
        refine am_iload_n (pc' := 35) dX2_areSoAt_34 rfl rfl rfl ?_
        refine am_iaload (pc' := 36) dX2_areSoAt_35 rfl (by first | assumption | exact ⟨by omega, by omega, rfl⟩) (by omega) (by omega) ?_
        refine am_icmp_eq (pc' := 39) (tgt := 41) dX2_areSoAt_36 rfl rfl (fun c_36 => ?_) (fun c_36 => ?_)
        · refine am_iinc (pc' := 44) (ls' := [_, _, _, _]) dX2_areSoAt_41 rfl rfl ⟨by omega, by omega⟩ (Nat.le_of_ble_eq_true rfl) rfl rfl ?_
          refine am_goto (pc' := 2) dX2_areSoAt_44 rfl ?_
          exact ih _ (by omega) (by omega) (by omega) (am_upto hall (fun z => by first | exact absurd z c_17 | exact c_36))
        · refine am_iconst (pc' := 40) dX2_areSoAt_39 rfl rfl ?_
          refine am_retz dX2_areSoAt_40 rfl (by first | exact Or.inl rfl | exact Or.inr rfl | omega) ?_
          exact hq _ (Or.inr ⟨rfl, fun z => c_36 (z k h0 (by omega) c_17)⟩)
theorem t_areSoAt {ρ h : am_H} {r t P : Int} (hL : am_LC ρ) (hR : am_RA ρ r) (hO : rd_OK h P) (hP : P ≤ 5) (hPe : h r 1 = P) : am_CT mX2_areSoAt 0 0 [am_R 33, am_I t, am_R r] ρ h (fun v ρ' h' => ρ' = ρ ∧ h' = h ∧ am_tf v (∀ k, 0 ≤ k → k < h 33 3 → h 34 k = t → h (r + 2) (h 35 k) = h 36 k)) := by
  have o1 := hO.1
  refine am_ct (ls := [some (am_R 33), some (am_I t), some (am_R r), none]) ok_X2_areSoAt rfl (fun _ => Nat.le_of_ble_eq_true rfl) (fun _ => rfl) (by intro v hv; simpa using hv) ?_
  refine am_iconst (pc' := 1) dX2_areSoAt_0 rfl rfl ?_
  refine am_istore_n (pc' := 2) (ls' := [_, _, _, _]) dX2_areSoAt_1 rfl rfl (Nat.le_of_ble_eq_true rfl) rfl rfl ?_
  exact t_areSoAt_l hL hR hO hP hPe (fun v z => ⟨rfl, rfl, z⟩) ((h 33 3).toNat + 1) 0 (by omega) (by omega) (by omega) (fun q z0 z1 => by omega)
/-- all readings are so, from the numbers f on -/
def rd_so (h : am_H) (P B : Int) (kd f : Int → Int) : Prop := ∀ k, 0 ≤ k → k < h 33 3 → mt_it P B kd (h 34 k).toNat f (h 35 k) = h 36 k
theorem t_areSo_l {ρ h : am_H} {r m : Int} {Q : am_Q} (hL : am_LC ρ) (hR : am_RA ρ r) (hr : r + 3 < 33) (hRO : am_RO h r) (hO : rd_OK h (h r 1)) (hm : 0 ≤ m ∧ m ≤ 99) (hmx : ∀ k, 0 ≤ k → k < h 33 3 → h 34 k ≤ m)
    (hq : ∀ v h1, am_fr [r + 2, r + 3] h h1 → am_tf v (rd_so h (h r 1) (h r 0) (h (r + 1)) (h (r + 2))) → Q v ρ h1) : ∀ (n : Nat) (t : Int) (h1 : am_H), (m + 1 - t).toNat < n → 0 ≤ t → t ≤ m + 1 → am_fr [r + 2, r + 3] h h1 → mt_eq (h r 1) (h1 (r + 2)) (mt_it (h r 1) (h r 0) (h (r + 1)) t.toNat (h (r + 2))) → (∀ k, 0 ≤ k → k < h 33 3 → h 34 k < t → mt_it (h r 1) (h r 0) (h (r + 1)) (h 34 k).toNat (h (r + 2)) (h 35 k) = h 36 k) → am_WP mX2_areSo 0 0 7 [some (am_R 33), some (am_R r), some (am_I m), some (am_I t)] [] ρ h1 Q := by
  have hn := hL.1
  obtain ⟨i1, i2, i3, i4, ⟨g1, g2, g3⟩, m1, m2, m3⟩ := id hR
  have r0 := i1.1
  obtain ⟨o1, o2, o3⟩ := id hO
  obtain ⟨s1, s2, s3, s4, s5⟩ := id hRO
  intro n
  induction n with
  | zero => intro t h1 hk; omega
  | succ n ih =>
    intro t h1 hk h0 ht hf hnum hall
    have f0 : h1 r 0 = h r 0 := hf r 0 (by simp <;> omega)
    have f1 : h1 r 1 = h r 1 := hf r 1 (by simp <;> omega)
    have f2 : h1 (r + 1) = h (r + 1) := funext fun k => hf (r + 1) k (by simp <;> omega)
    have f3 : h1 33 = h 33 := funext fun k => hf 33 k (by simp <;> omega)
    have f4 : h1 34 = h 34 := funext fun k => hf 34 k (by simp <;> omega)
    have f5 : h1 35 = h 35 := funext fun k => hf 35 k (by simp <;> omega)
    have f6 : h1 36 = h 36 := funext fun k => hf 36 k (by simp <;> omega)
    have hO1 : rd_OK h1 (h r 1) := by unfold rd_OK; rw [f3, f4, f5]; exact hO
    have hRO1 : am_RO h1 r := ⟨by omega, by omega, by omega, by omega, fun p z0 z1 => by rw [f1] at z1; rw [hnum p z0 z1, f0]; exact mt_it_in s1 s5 _ p z0 z1⟩
    have K21 : t ≤ m → ¬ (∀ k, 0 ≤ k → k < h 33 3 → h 34 k = t → h1 (r + 2) (h 35 k) = h 36 k) → am_WP mX2_areSo 0 0 21 [some (am_R 33), some (am_R r), some (am_I m), some (am_I t)] [] ρ h1 Q := by
      intro htm q1
      refine am_iconst (pc' := 22) dX2_areSo_21 rfl rfl ?_
      refine am_retz dX2_areSo_22 rfl (by first | exact Or.inl rfl | exact Or.inr rfl | omega) ?_
      refine hq _ h1 hf (Or.inr ⟨rfl, fun z => q1 (fun k z0 z1 z2 => ?_)⟩)
      have ok := o3 k z0 z1
      have zk := z k z0 z1
      rw [z2] at zk
      rw [hnum _ ok.2.2.1 ok.2.2.2]; exact zk
    have K23 : t ≤ m → (∀ k, 0 ≤ k → k < h 33 3 → h 34 k = t → h1 (r + 2) (h 35 k) = h 36 k) → am_WP mX2_areSo 0 0 23 [some (am_R 33), some (am_R r), some (am_I m), some (am_I t)] [] ρ h1 Q := by
      intro htm q1
      refine am_aload_n (pc' := 24) dX2_areSo_23 rfl rfl rfl ?_
      refine am_iconst (pc' := 25) dX2_areSo_24 rfl rfl ?_
      refine am_callV0 (pc' := 28) (as := [_]) (ci := 3)  rfl dX2_areSo_25 rfl ok_X3_go ml_X2_33 im_X3_go se_X3_go rfl (Nat.le_of_ble_eq_true rfl) rfl (Nat.le_of_ble_eq_true rfl) (by first | assumption | exact ⟨by omega, by omega, rfl⟩) (t_go hR hRO1 (by omega)) (fun r_25 ρ_25 h_25 q_25 g_25 e_25 => ?_)
      obtain ⟨rfl, rfl, p1, p2⟩ := q_25
      rw [f0, f1, f2] at p2
      refine am_iinc (pc' := 31) (ls' := [_, _, _, _]) dX2_areSo_28 rfl rfl ⟨by omega, by omega⟩ (Nat.le_of_ble_eq_true rfl) rfl rfl ?_
      refine am_goto (pc' := 7) dX2_areSo_31 rfl ?_
      refine ih _ _ (by omega) (by omega) (by omega) (am_fr_trans hf p1) (fun p z0 z1 => ?_) (fun k z0 z1 z2 => ?_)
      · rw [p2 p z0 z1, show (t + 1).toNat = t.toNat + 1 by omega]
        exact mt_st_eq s1 (fun _ _ _ => rfl) hnum p z0 z1
      · by_cases e : h 34 k = t
        · have ok := o3 k z0 z1
          rw [← q1 k z0 z1 e, hnum _ ok.2.2.1 ok.2.2.2, e]
        · exact hall k z0 z1 (by omega)
    refine am_iload_n (pc' := 8) dX2_areSo_7 rfl rfl rfl ?_
    refine am_iload_n (pc' := 9) dX2_areSo_8 rfl rfl rfl ?_
    refine am_icmp_gt (pc' := 12) (tgt := 34) dX2_areSo_9 rfl rfl (fun c_9 => ?_) (fun c_9 => ?_)
    · refine am_iconst (pc' := 35) dX2_areSo_34 rfl rfl ?_
      refine am_retz dX2_areSo_35 rfl (by first | exact Or.inl rfl | exact Or.inr rfl | omega) ?_
      exact hq _ h1 hf (Or.inl ⟨rfl, fun k z0 z1 => hall k z0 z1 (by have := hmx k z0 z1; omega)⟩)
    · refine am_aload_n (pc' := 13) dX2_areSo_12 rfl rfl rfl ?_
      refine am_iload_n (pc' := 14) dX2_areSo_13 rfl rfl rfl ?_
      refine am_aload_n (pc' := 15) dX2_areSo_14 rfl rfl rfl ?_
      refine am_callV0 (pc' := 18) (as := [_, _]) (ci := 2)  rfl dX2_areSo_15 rfl ok_X2_areSoAt ml_X2_29 im_X2_areSoAt se_X2_areSoAt rfl (Nat.le_of_ble_eq_true rfl) rfl (Nat.le_of_ble_eq_true rfl) (by first | assumption | exact ⟨by omega, by omega, rfl⟩) (t_areSoAt hL hR hO1 s2 f1) (fun r_15 ρ_15 h_15 q_15 g_15 e_15 => ?_)
      obtain ⟨rfl, rfl, q1⟩ := q_15
      rw [f3, f4, f5, f6] at q1
      rcases q1 with ⟨rfl, q1⟩ | ⟨rfl, q1⟩
      · refine am_if_ne (pc' := 21) (tgt := 23) dX2_areSo_18 rfl rfl (fun c_18 => ?_) (fun c_18 => ?_)
        · first | exact absurd rfl c_18 | exact K23 (by omega) q1
        · first | exact absurd c_18 (by decide) | exact K21 (by omega) q1
      · refine am_if_ne (pc' := 21) (tgt := 23) dX2_areSo_18 rfl rfl (fun c_18 => ?_) (fun c_18 => ?_)
        · first | exact absurd rfl c_18 | exact K23 (by omega) q1
        · first | exact absurd c_18 (by decide) | exact K21 (by omega) q1
theorem t_areSo {ρ h : am_H} {r : Int} (hL : am_LC ρ) (hR : am_RA ρ r) (hr : r + 3 < 33) (hRO : am_RO h r) (hO : rd_OK h (h r 1)) : am_CT mX2_areSo 0 0 [am_R 33, am_R r] ρ h (fun v ρ' h1 => ρ' = ρ ∧ am_fr [r + 2, r + 3] h h1 ∧ am_tf v (rd_so h (h r 1) (h r 0) (h (r + 1)) (h (r + 2)))) := by
  have hn := hL.1
  refine am_ct (ls := [some (am_R 33), some (am_R r), none, none]) ok_X2_areSo rfl (fun _ => Nat.le_of_ble_eq_true rfl) (fun _ => rfl) (by intro v hv; simpa using hv) ?_
  refine am_aload_n (pc' := 1) dX2_areSo_0 rfl rfl rfl ?_
  refine am_callV0 (pc' := 4) (as := []) (ci := 2)  rfl dX2_areSo_1 rfl ok_X2_lastTime ml_X2_25 im_X2_lastTime se_X2_lastTime rfl (Nat.le_of_ble_eq_true rfl) rfl (Nat.le_of_ble_eq_true rfl) (by first | assumption | exact ⟨by omega, by omega, rfl⟩) (t_lastTime hL hO) (fun r_1 ρ_1 h_1 q_1 g_1 e_1 => ?_)
  obtain ⟨rfl, rfl, m, rfl, a1, a2, a3⟩ := q_1
  refine am_istore_n (pc' := 5) (ls' := [_, _, _, _]) dX2_areSo_4 rfl rfl (Nat.le_of_ble_eq_true rfl) rfl rfl ?_
  refine am_iconst (pc' := 6) dX2_areSo_5 rfl rfl ?_
  refine am_istore_n (pc' := 7) (ls' := [_, _, _, _]) dX2_areSo_6 rfl rfl (Nat.le_of_ble_eq_true rfl) rfl rfl ?_
  exact t_areSo_l hL hR hr hRO hO ⟨a1, a2⟩ a3 (fun v h1 a b => ⟨rfl, a, b⟩) ((m + 1).toNat + 1) 0 _ (by omega) (by omega) (by omega) am_fr_refl (fun _ _ _ => rfl) (fun k z0 z1 z2 => by have := hO.2.2 k z0 z1; omega)
