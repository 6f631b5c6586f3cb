/-! the model: rows -/
theorem t8_takesRow_l {ρ h : am_H} {c : Int} {Q : am_Q} (hM : am_LM ρ) (hA : md_A h) (hc : 0 ≤ c ∧ c ≤ 100000) (hq : ∀ h1, am_fr [43] h h1 → (∀ p, 0 ≤ p → p < h 38 1 → h1 43 p = dg (h 38 1) (h 38 2) c p) → Q none ρ h1) :
    ∀ (n : Nat) (p : Int) (h1 : am_H), p < n → -1 ≤ p → p < h 38 1 → am_fr [43] h h1 → (∀ q, p < q → q < h 38 1 → h1 43 q = dg (h 38 1) (h 38 2) c q) → am_WP mX8_takesRow 0 0 9 [some (am_R 38), some (am_I c), some (am_I (dv (h 38 2) c (h 38 1 - 1 - p).toNat)), some (am_I p)] [] ρ h1 Q := by
  have hn58 := hM.1
  obtain ⟨a1, a2⟩ := id hA
  have e1 := am_lm hM 38 11 43 (by decide)
  have e3 := am_lm hM 43 (-1) 5 (by decide)
  intro n
  induction n with
  | zero =>
    intro p h1 hk h0 h9 hf hr
    refine am_iload_n (pc' := 10) dX8_takesRow_9 rfl rfl rfl ?_
    refine am_if_lt (pc' := 13) (tgt := 38) dX8_takesRow_10 rfl rfl (fun c_10 => ?_) (fun c_10 => ?_)
    · refine am_retv dX8_takesRow_38 rfl ?_
      exact hq h1 hf (fun q q0 q1 => hr q (by omega) q1)
    · exfalso; omega
  | succ n ih =>
    intro p h1 hk h0 h9 hf hr
    have g1 : h1 38 1 = h 38 1 := hf 38 1 (by simp <;> omega)
    have g2 : h1 38 2 = h 38 2 := hf 38 2 (by simp <;> omega)
    have hd := dv_nn a2.1 hc.1 (h 38 1 - 1 - p).toNat
    refine am_iload_n (pc' := 10) dX8_takesRow_9 rfl rfl rfl ?_
    refine am_if_lt (pc' := 13) (tgt := 38) dX8_takesRow_10 rfl rfl (fun c_10 => ?_) (fun c_10 => ?_)
    · refine am_retv dX8_takesRow_38 rfl ?_
      exact hq h1 hf (fun q q0 q1 => hr q (by omega) q1)
    · refine am_aload_n (pc' := 14) dX8_takesRow_13 rfl rfl rfl ?_
      refine am_getRk (ki := 11) (pc' := 17) (k := 11) (ci := 7) rfl dX8_takesRow_14 rfl fl_X8_22 (by first | assumption | exact ⟨by omega, by omega, rfl⟩) rfl (by assumption) (by omega) ?_
      refine am_iload_n (pc' := 18) dX8_takesRow_17 rfl rfl rfl ?_
      refine am_iload_n (pc' := 19) dX8_takesRow_18 rfl rfl rfl ?_
      refine am_aload_n (pc' := 20) dX8_takesRow_19 rfl rfl rfl ?_
      refine am_getIk (ki := 2) (pc' := 23) (k := 2) (ci := 7) rfl dX8_takesRow_20 rfl fl_X8_127 (by first | assumption | exact ⟨by omega, by omega, rfl⟩) rfl ?_
      rw [g2]
      refine am_irem (pc' := 24) dX8_takesRow_23 rfl (by omega) (by omega) ?_
      refine am_iastore (pc' := 25) dX8_takesRow_24 rfl (by first | assumption | exact ⟨by omega, by omega, rfl⟩) (by omega) (by omega) ?_
      refine am_iload_n (pc' := 26) dX8_takesRow_25 rfl rfl rfl ?_
      refine am_aload_n (pc' := 27) dX8_takesRow_26 rfl rfl rfl ?_
      refine am_getIk (ki := 2) (pc' := 30) (k := 2) (ci := 7) rfl dX8_takesRow_27 rfl fl_X8_127 (by first | assumption | exact ⟨by omega, by omega, rfl⟩) rfl ?_
      rw [am_u_n (by omega), g2]
      refine am_idiv (pc' := 31) dX8_takesRow_30 rfl (by omega) (by omega) ?_
      refine am_istore_n (pc' := 32) (ls' := [_, _, _, _]) dX8_takesRow_31 rfl rfl (Nat.le_of_ble_eq_true rfl) rfl rfl ?_
      refine am_iinc (pc' := 35) (ls' := [_, _, _, _]) dX8_takesRow_32 rfl rfl ⟨by omega, by omega⟩ (Nat.le_of_ble_eq_true rfl) rfl rfl ?_
      refine am_goto (pc' := 9) dX8_takesRow_35 rfl ?_
      rw [show dv (h 38 2) c (h 38 1 - 1 - p).toNat / h 38 2 = dv (h 38 2) c (h 38 1 - 1 - (p + -1)).toNat by rw [show (h 38 1 - 1 - (p + -1)).toNat = (h 38 1 - 1 - p).toNat + 1 by omega]; rfl]
      refine ih _ _ (by omega) (by omega) (by omega) (am_fr_u hf (by simp <;> omega)) (fun q q0 q1 => ?_)
      by_cases z : q = p
      · rw [z, am_u_s]; rfl
      · rw [am_u_n (by omega)]; exact hr q (by omega) q1
theorem t8_takesRow {ρ h : am_H} {c : Int} (hM : am_LM ρ) (hA : md_A h) (hc : 0 ≤ c ∧ c ≤ 100000) : am_CT mX8_takesRow 0 0 [am_R 38, am_I c] ρ h (fun r ρ' h' => r = none ∧ ρ' = ρ ∧ am_fr [43] h h' ∧ ∀ p, 0 ≤ p → p < h 38 1 → h' 43 p = dg (h 38 1) (h 38 2) c p) := by
  have hn58 := hM.1
  obtain ⟨a1, a2⟩ := id hA
  have key := t8_takesRow_l (Q := fun r ρ' h' => r = none ∧ ρ' = ρ ∧ am_fr [43] h h' ∧ ∀ p, 0 ≤ p → p < h 38 1 → h' 43 p = dg (h 38 1) (h 38 2) c p) hM hA hc (fun h1 a b => ⟨rfl, rfl, a, b⟩) (h 38 1).toNat (h 38 1 - 1) h (by omega) (by omega) (by omega) am_fr_refl (fun q q0 q1 => by omega)
  rw [show (h 38 1 - 1 - (h 38 1 - 1)).toNat = 0 by omega] at key
  refine am_ct (ls := [some (am_R 38), some (am_I c), none, none]) ok_X8_takesRow rfl (fun _ => Nat.le_of_ble_eq_true rfl) (fun _ => rfl) (by intro v hv; simpa using hv) ?_
  refine am_iload_n (pc' := 1) dX8_takesRow_0 rfl rfl rfl ?_
  refine am_istore_n (pc' := 2) (ls' := [_, _, _, _]) dX8_takesRow_1 rfl rfl (Nat.le_of_ble_eq_true rfl) rfl rfl ?_
  refine am_aload_n (pc' := 3) dX8_takesRow_2 rfl rfl rfl ?_
  refine am_getIk (ki := 1) (pc' := 6) (k := 1) (ci := 7) rfl dX8_takesRow_3 rfl fl_X8_77 (by first | assumption | exact ⟨by omega, by omega, rfl⟩) rfl ?_
  refine am_iconst (pc' := 7) dX8_takesRow_6 rfl rfl ?_
  refine am_isub (pc' := 8) dX8_takesRow_7 rfl ⟨by omega, by omega⟩ ?_
  refine am_istore_n (pc' := 9) (ls' := [_, _, _, _]) dX8_takesRow_8 rfl rfl (Nat.le_of_ble_eq_true rfl) rfl rfl ?_
  exact key
theorem t8_rowAt_l {ρ h : am_H} {Q : am_Q} (hM : am_LM ρ) (hA : md_A h) (hn : mt_ok (h 38 1) (h 38 2) (h 43)) (hq : Q (some (am_I (mt_cd (h 38 2) (h 43) (h 38 1).toNat))) ρ h) :
    ∀ (n : Nat) (i m : Int), (h 38 1 - i).toNat < n → 0 ≤ i → i ≤ h 38 1 → m = mt_cd (h 38 2) (h 43) i.toNat → am_WP mX8_rowAt 0 0 4 [some (am_R 38), some (am_I m), some (am_I i)] [] ρ h Q := by
  have hn58 := hM.1
  obtain ⟨a1, a2⟩ := id hA
  have e1 := am_lm hM 38 11 43 (by decide)
  have e3 := am_lm hM 43 (-1) 5 (by decide)
  intro n
  induction n with
  | zero => intro i m hk; omega
  | succ n ih =>
    intro i m hk h0 h9 hm
    have b1 := mt_cd_in (B := h 38 2) (f := h 43) (n := i.toNat) a2.1 (fun p p0 p1 => hn p p0 (by omega))
    have b2 := mt_pw_7776 a2.1 a2.2 i.toNat (by omega)
    rw [← hm] at b1
    have b3 : 0 ≤ h 38 2 * m := Int.mul_nonneg (by omega) b1.1
    have b4 : h 38 2 * m ≤ 6 * 7776 := Int.mul_le_mul a2.2 (by omega) b1.1 (by omega)
    refine am_iload_n (pc' := 5) dX8_rowAt_4 rfl rfl rfl ?_
    refine am_aload_n (pc' := 6) dX8_rowAt_5 rfl rfl rfl ?_
    refine am_getIk (ki := 1) (pc' := 9) (k := 1) (ci := 7) rfl dX8_rowAt_6 rfl fl_X8_77 (by first | assumption | exact ⟨by omega, by omega, rfl⟩) rfl ?_
    refine am_icmp_ge (pc' := 12) (tgt := 32) dX8_rowAt_9 rfl rfl (fun c_9 => ?_) (fun c_9 => ?_)
    · refine am_iload_n (pc' := 33) dX8_rowAt_32 rfl rfl rfl ?_
      refine am_reti dX8_rowAt_33 rfl ?_
      rw [hm, show i.toNat = (h 38 1).toNat by omega]; exact hq
    · refine am_aload_n (pc' := 13) dX8_rowAt_12 rfl rfl rfl ?_
      refine am_getIk (ki := 2) (pc' := 16) (k := 2) (ci := 7) rfl dX8_rowAt_13 rfl fl_X8_127 (by first | assumption | exact ⟨by omega, by omega, rfl⟩) rfl ?_
      refine am_iload_n (pc' := 17) dX8_rowAt_16 rfl rfl rfl ?_
      refine am_imul (pc' := 18) dX8_rowAt_17 rfl ⟨by omega, by omega⟩ ?_
      refine am_aload_n (pc' := 19) dX8_rowAt_18 rfl rfl rfl ?_
      refine am_getRk (ki := 11) (pc' := 22) (k := 11) (ci := 7) rfl dX8_rowAt_19 rfl fl_X8_22 (by first | assumption | exact ⟨by omega, by omega, rfl⟩) rfl (by assumption) (by omega) ?_
      refine am_iload_n (pc' := 23) dX8_rowAt_22 rfl rfl rfl ?_
      refine am_iaload (pc' := 24) dX8_rowAt_23 rfl (by first | assumption | exact ⟨by omega, by omega, rfl⟩) (by omega) (by omega) ?_
      have hv := hn i h0 (by omega)
      refine am_iadd (pc' := 25) dX8_rowAt_24 rfl ⟨by omega, by omega⟩ ?_
      refine am_istore_n (pc' := 26) (ls' := [_, _, _]) dX8_rowAt_25 rfl rfl (Nat.le_of_ble_eq_true rfl) rfl rfl ?_
      refine am_iinc (pc' := 29) (ls' := [_, _, _]) dX8_rowAt_26 rfl rfl ⟨by omega, by omega⟩ (Nat.le_of_ble_eq_true rfl) rfl rfl ?_
      refine am_goto (pc' := 4) dX8_rowAt_29 rfl ?_
      exact ih _ _ (by omega) (by omega) (by omega) (by rw [mt_cd_next _ _ h0, hm, Int.mul_comm])
theorem t8_rowAt {ρ h : am_H} (hM : am_LM ρ) (hA : md_A h) (hn : mt_ok (h 38 1) (h 38 2) (h 43)) : am_CT mX8_rowAt 0 0 [am_R 38] ρ h (am_P (am_I (mt_cd (h 38 2) (h 43) (h 38 1).toNat)) ρ h) := by
  obtain ⟨a1, a2⟩ := id hA
  refine am_ct (ls := [some (am_R 38), none, none]) ok_X8_rowAt rfl (fun _ => Nat.le_of_ble_eq_true rfl) (fun _ => rfl) (by intro v hv; simpa using hv) ?_
  refine am_iconst (pc' := 1) dX8_rowAt_0 rfl rfl ?_
  refine am_istore_n (pc' := 2) (ls' := [_, _, _]) dX8_rowAt_1 rfl rfl (Nat.le_of_ble_eq_true rfl) rfl rfl ?_
  refine am_iconst (pc' := 3) dX8_rowAt_2 rfl rfl ?_
  refine am_istore_n (pc' := 4) (ls' := [_, _, _]) dX8_rowAt_3 rfl rfl (Nat.le_of_ble_eq_true rfl) rfl rfl ?_
  exact t8_rowAt_l hM hA hn ⟨rfl, rfl, rfl⟩ ((h 38 1).toNat + 1) 0 0 (by omega) (by omega) (by omega) rfl
theorem t8_rowNow {ρ h : am_H} (hM : am_LM ρ) (hA : md_A h) (hn : mt_ok (h 38 1) (h 38 2) (h 40)) : am_CT mX8_rowNow 0 0 [am_R 38] ρ h (fun r ρ' h' => r = some (am_I (mt_cd (h 38 2) (h 40) (h 38 1).toNat)) ∧ ρ' = ρ ∧ am_fr [43] h h') := by
  have hn58 := hM.1
  obtain ⟨a1, a2⟩ := id hA
  refine am_ct (ls := [some (am_R 38)]) ok_X8_rowNow rfl (fun _ => Nat.le_of_ble_eq_true rfl) (fun _ => rfl) (by intro v hv; simpa using hv) ?_
  refine am_aload_n (pc' := 1) dX8_rowNow_0 rfl rfl rfl ?_
  refine am_callV0 (pc' := 4) (as := []) (ci := 7)  rfl dX8_rowNow_1 rfl ok_X8_takesNow ml_X8_142 im_X8_takesNow se_X8_takesNow rfl (Nat.le_of_ble_eq_true rfl) rfl (Nat.le_of_ble_eq_true rfl) (by first | assumption | exact ⟨by omega, by omega, rfl⟩) (t8_takesNow hM (by omega)) (fun r_1 ρ_1 h_1 q_1 g_1 e_1 => ?_)
  obtain ⟨rfl, rfl, q1, q2⟩ := q_1
  have g1 : h_1 38 1 = h 38 1 := q1 38 1 (by simp <;> omega)
  have g2 : h_1 38 2 = h 38 2 := q1 38 2 (by simp <;> omega)
  refine am_aload_n (pc' := 5) dX8_rowNow_4 rfl rfl rfl ?_
  refine am_callVp (pc' := 8) (as := []) (ci := 7)  rfl dX8_rowNow_5 rfl ok_X8_rowAt ml_X8_145 im_X8_rowAt se_X8_rowAt rfl (Nat.le_of_ble_eq_true rfl) rfl (Nat.le_of_ble_eq_true rfl) (by first | assumption | exact ⟨by omega, by omega, rfl⟩) (t8_rowAt hM (by unfold md_A; rw [g1, g2]; exact hA) (fun p p0 p1 => by rw [g1] at p1; rw [q2 p p0 p1, g2]; exact hn p p0 p1)) ?_
  refine am_reti dX8_rowNow_8 rfl ?_
  exact ⟨by rw [g1, g2, mt_cd_eq (f := h_1 43) (g := h 40) (fun p p0 p1 => q2 p p0 (by omega))], rfl, q1⟩
theorem t8_allRows_l {ρ h : am_H} {Q : am_Q} (hM : am_LM ρ) (hA : md_A h) (hq : Q (some (am_I (mt_pw (h 38 2) (h 38 1).toNat))) ρ h) :
    ∀ (n : Nat) (i m : Int), (h 38 1 - i).toNat < n → 0 ≤ i → i ≤ h 38 1 → m = mt_pw (h 38 2) i.toNat → am_WP mX8_allRows 0 0 4 [some (am_R 38), some (am_I m), some (am_I i)] [] ρ h Q := by
  have hn58 := hM.1
  obtain ⟨a1, a2⟩ := id hA
  intro n
  induction n with
  | zero => intro i m hk; omega
  | succ n ih =>
    intro i m hk h0 h9 hm
    have b2 := mt_pw_7776 a2.1 a2.2 i.toNat (by omega)
    have b1 := mt_pw_pos a2.1 i.toNat
    rw [← hm] at b1 b2
    have b3 : 0 ≤ m * h 38 2 := Int.mul_nonneg (by omega) (by omega)
    have b4 : m * h 38 2 ≤ 7776 * 6 := Int.mul_le_mul b2 a2.2 (by omega) (by omega)
    refine am_iload_n (pc' := 5) dX8_allRows_4 rfl rfl rfl ?_
    refine am_aload_n (pc' := 6) dX8_allRows_5 rfl rfl rfl ?_
    refine am_getIk (ki := 1) (pc' := 9) (k := 1) (ci := 7) rfl dX8_allRows_6 rfl fl_X8_77 (by first | assumption | exact ⟨by omega, by omega, rfl⟩) rfl ?_
    refine am_icmp_ge (pc' := 12) (tgt := 25) dX8_allRows_9 rfl rfl (fun c_9 => ?_) (fun c_9 => ?_)
    · refine am_iload_n (pc' := 26) dX8_allRows_25 rfl rfl rfl ?_
      refine am_reti dX8_allRows_26 rfl ?_
      rw [hm, show i.toNat = (h 38 1).toNat by omega]; exact hq
    · refine am_iload_n (pc' := 13) dX8_allRows_12 rfl rfl rfl ?_
      refine am_aload_n (pc' := 14) dX8_allRows_13 rfl rfl rfl ?_
      refine am_getIk (ki := 2) (pc' := 17) (k := 2) (ci := 7) rfl dX8_allRows_14 rfl fl_X8_127 (by first | assumption | exact ⟨by omega, by omega, rfl⟩) rfl ?_
      refine am_imul (pc' := 18) dX8_allRows_17 rfl ⟨by omega, by omega⟩ ?_
      refine am_istore_n (pc' := 19) (ls' := [_, _, _]) dX8_allRows_18 rfl rfl (Nat.le_of_ble_eq_true rfl) rfl rfl ?_
      refine am_iinc (pc' := 22) (ls' := [_, _, _]) dX8_allRows_19 rfl rfl ⟨by omega, by omega⟩ (Nat.le_of_ble_eq_true rfl) rfl rfl ?_
      refine am_goto (pc' := 4) dX8_allRows_22 rfl ?_
      exact ih _ _ (by omega) (by omega) (by omega) (by rw [show (i + 1).toNat = i.toNat + 1 by omega, hm]; rfl)
theorem t8_allRows {ρ h : am_H} (hM : am_LM ρ) (hA : md_A h) : am_CT mX8_allRows 0 0 [am_R 38] ρ h (am_P (am_I (mt_pw (h 38 2) (h 38 1).toNat)) ρ h) := by
  obtain ⟨a1, a2⟩ := id hA
  refine am_ct (ls := [some (am_R 38), none, none]) ok_X8_allRows rfl (fun _ => Nat.le_of_ble_eq_true rfl) (fun _ => rfl) (by intro v hv; simpa using hv) ?_
  refine am_iconst (pc' := 1) dX8_allRows_0 rfl rfl ?_
  refine am_istore_n (pc' := 2) (ls' := [_, _, _]) dX8_allRows_1 rfl rfl (Nat.le_of_ble_eq_true rfl) rfl rfl ?_
  refine am_iconst (pc' := 3) dX8_allRows_2 rfl rfl ?_
  refine am_istore_n (pc' := 4) (ls' := [_, _, _]) dX8_allRows_3 rfl rfl (Nat.le_of_ble_eq_true rfl) rfl rfl ?_
  exact t8_allRows_l hM hA ⟨rfl, rfl, rfl⟩ ((h 38 1).toNat + 1) 0 1 (by omega) (by omega) (by omega) rfl
theorem t8_zeros_l {ρ h : am_H} {Q : am_Q} (hM : am_LM ρ) (hP : 0 ≤ h 38 1 ∧ h 38 1 ≤ 5) (hq : Q (some (am_I (mt_sum (fun q => if h 40 q = 0 then 1 else 0) (h 38 1).toNat))) ρ h) :
    ∀ (n : Nat) (i c : Int), (h 38 1 - i).toNat < n → 0 ≤ i → i ≤ h 38 1 → 0 ≤ c → c ≤ i → c = mt_sum (fun q => if h 40 q = 0 then 1 else 0) i.toNat → am_WP mX8_zeros 0 0 4 [some (am_R 38), some (am_I c), some (am_I i)] [] ρ h Q := by
  have hn58 := hM.1
  have e1 := am_lm hM 38 5 40 (by decide)
  have e3 := am_lm hM 40 (-1) 5 (by decide)
  intro n
  induction n with
  | zero => intro i c hn; omega
  | succ n ih =>
    intro i c hn h0 h1 c0 c1 hc
    refine am_iload_n (pc' := 5) dX8_zeros_4 rfl rfl rfl ?_
    refine am_aload_n (pc' := 6) dX8_zeros_5 rfl rfl rfl ?_
    refine am_getIk (ki := 1) (pc' := 9) (k := 1) (ci := 7) rfl dX8_zeros_6 rfl fl_X8_77 (by first | assumption | exact ⟨by omega, by omega, rfl⟩) rfl ?_
    refine am_icmp_ge (pc' := 12) (tgt := 35) dX8_zeros_9 rfl rfl (fun c_9 => ?_) (fun c_9 => ?_)
    · refine am_iload_n (pc' := 36) dX8_zeros_35 rfl rfl rfl ?_
      refine am_reti dX8_zeros_36 rfl ?_
      have ei : i.toNat = (h 38 1).toNat := by omega
      rw [hc, ei]; exact hq
    · refine am_iload_n (pc' := 13) dX8_zeros_12 rfl rfl rfl ?_
      refine am_aload_n (pc' := 14) dX8_zeros_13 rfl rfl rfl ?_
      refine am_getRk (ki := 5) (pc' := 17) (k := 5) (ci := 7) rfl dX8_zeros_14 rfl fl_X8_13 (by first | assumption | exact ⟨by omega, by omega, rfl⟩) rfl (by assumption) (by omega) ?_
      refine am_iload_n (pc' := 18) dX8_zeros_17 rfl rfl rfl ?_
      refine am_iaload (pc' := 19) dX8_zeros_18 rfl (by first | assumption | exact ⟨by omega, by omega, rfl⟩) (by omega) (by omega) ?_
      refine am_if_ne (pc' := 22) (tgt := 26) dX8_zeros_19 rfl rfl (fun c_19 => ?_) (fun c_19 => ?_)
      · refine am_iconst (pc' := 27) dX8_zeros_26 rfl rfl ?_
        refine am_iadd (pc' := 28) dX8_zeros_27 rfl ⟨by omega, by omega⟩ ?_
        refine am_istore_n (pc' := 29) (ls' := [_, _, _]) dX8_zeros_28 rfl rfl (Nat.le_of_ble_eq_true rfl) rfl rfl ?_
        refine am_iinc (pc' := 32) (ls' := [_, _, _]) dX8_zeros_29 rfl rfl ⟨by omega, by omega⟩ (Nat.le_of_ble_eq_true rfl) rfl rfl ?_
        refine am_goto (pc' := 4) dX8_zeros_32 rfl ?_
        exact ih _ _ (by omega) (by omega) (by omega) (by omega) (by omega) (by rw [mt_sum_next _ h0, hc]; simp [*])
      · refine am_iconst (pc' := 23) dX8_zeros_22 rfl rfl ?_
        refine am_goto (pc' := 27) dX8_zeros_23 rfl ?_
        refine am_iadd (pc' := 28) dX8_zeros_27 rfl ⟨by omega, by omega⟩ ?_
        refine am_istore_n (pc' := 29) (ls' := [_, _, _]) dX8_zeros_28 rfl rfl (Nat.le_of_ble_eq_true rfl) rfl rfl ?_
        refine am_iinc (pc' := 32) (ls' := [_, _, _]) dX8_zeros_29 rfl rfl ⟨by omega, by omega⟩ (Nat.le_of_ble_eq_true rfl) rfl rfl ?_
        refine am_goto (pc' := 4) dX8_zeros_32 rfl ?_
        exact ih _ _ (by omega) (by omega) (by omega) (by omega) (by omega) (by rw [mt_sum_next _ h0, hc]; simp [*])
theorem t8_zeros {ρ h : am_H} (hM : am_LM ρ) (hP : 0 ≤ h 38 1 ∧ h 38 1 ≤ 5) : am_CT mX8_zeros 0 0 [am_R 38] ρ h (am_P (am_I (mt_sum (fun q => if h 40 q = 0 then 1 else 0) (h 38 1).toNat)) ρ h) := by
  refine am_ct (ls := [some (am_R 38), none, none]) ok_X8_zeros rfl (fun _ => Nat.le_of_ble_eq_true rfl) (fun _ => rfl) (by intro v hv; simpa using hv) ?_
  refine am_iconst (pc' := 1) dX8_zeros_0 rfl rfl ?_
  refine am_istore_n (pc' := 2) (ls' := [_, _, _]) dX8_zeros_1 rfl rfl (Nat.le_of_ble_eq_true rfl) rfl rfl ?_
  refine am_iconst (pc' := 3) dX8_zeros_2 rfl rfl ?_
  refine am_istore_n (pc' := 4) (ls' := [_, _, _]) dX8_zeros_3 rfl rfl (Nat.le_of_ble_eq_true rfl) rfl rfl ?_
  exact t8_zeros_l hM hP ⟨rfl, rfl, rfl⟩ ((h 38 1).toNat + 1) 0 0 (by omega) (by omega) (by omega) (by omega) (by omega) rfl
theorem t8_sumNow_l {ρ h : am_H} {Q : am_Q} (hM : am_LM ρ) (hA : md_A h) (hn : mt_ok (h 38 1) (h 38 2) (h 40)) (hq : Q (some (am_I (mt_sum (h 40) (h 38 1).toNat))) ρ h) :
    ∀ (n : Nat) (i c : Int), (h 38 1 - i).toNat < n → 0 ≤ i → i ≤ h 38 1 → 0 ≤ c → c ≤ 6 * i → c = mt_sum (h 40) i.toNat → am_WP mX8_sumNow 0 0 4 [some (am_R 38), some (am_I c), some (am_I i)] [] ρ h Q := by
  have hn58 := hM.1
  obtain ⟨a1, a2⟩ := id hA
  have e1 := am_lm hM 38 5 40 (by decide)
  have e3 := am_lm hM 40 (-1) 5 (by decide)
  intro n
  induction n with
  | zero => intro i c hn; omega
  | succ n ih =>
    intro i c hk h0 h1 c0 c1 hc
    refine am_iload_n (pc' := 5) dX8_sumNow_4 rfl rfl rfl ?_
    refine am_aload_n (pc' := 6) dX8_sumNow_5 rfl rfl rfl ?_
    refine am_getIk (ki := 1) (pc' := 9) (k := 1) (ci := 7) rfl dX8_sumNow_6 rfl fl_X8_77 (by first | assumption | exact ⟨by omega, by omega, rfl⟩) rfl ?_
    refine am_icmp_ge (pc' := 12) (tgt := 27) dX8_sumNow_9 rfl rfl (fun c_9 => ?_) (fun c_9 => ?_)
    · refine am_iload_n (pc' := 28) dX8_sumNow_27 rfl rfl rfl ?_
      refine am_reti dX8_sumNow_28 rfl ?_
      have ei : i.toNat = (h 38 1).toNat := by omega
      rw [hc, ei]; exact hq
    · refine am_iload_n (pc' := 13) dX8_sumNow_12 rfl rfl rfl ?_
      refine am_aload_n (pc' := 14) dX8_sumNow_13 rfl rfl rfl ?_
      refine am_getRk (ki := 5) (pc' := 17) (k := 5) (ci := 7) rfl dX8_sumNow_14 rfl fl_X8_13 (by first | assumption | exact ⟨by omega, by omega, rfl⟩) rfl (by assumption) (by omega) ?_
      refine am_iload_n (pc' := 18) dX8_sumNow_17 rfl rfl rfl ?_
      refine am_iaload (pc' := 19) dX8_sumNow_18 rfl (by first | assumption | exact ⟨by omega, by omega, rfl⟩) (by omega) (by omega) ?_
      have hv := hn i h0 (by omega)
      refine am_iadd (pc' := 20) dX8_sumNow_19 rfl ⟨by omega, by omega⟩ ?_
      refine am_istore_n (pc' := 21) (ls' := [_, _, _]) dX8_sumNow_20 rfl rfl (Nat.le_of_ble_eq_true rfl) rfl rfl ?_
      refine am_iinc (pc' := 24) (ls' := [_, _, _]) dX8_sumNow_21 rfl rfl ⟨by omega, by omega⟩ (Nat.le_of_ble_eq_true rfl) rfl rfl ?_
      refine am_goto (pc' := 4) dX8_sumNow_24 rfl ?_
      exact ih _ _ (by omega) (by omega) (by omega) (by omega) (by omega) (by rw [mt_sum_next _ h0, hc])
theorem t8_sumNow {ρ h : am_H} (hM : am_LM ρ) (hA : md_A h) (hn : mt_ok (h 38 1) (h 38 2) (h 40)) : am_CT mX8_sumNow 0 0 [am_R 38] ρ h (am_P (am_I (mt_sum (h 40) (h 38 1).toNat)) ρ h) := by
  obtain ⟨a1, a2⟩ := id hA
  refine am_ct (ls := [some (am_R 38), none, none]) ok_X8_sumNow rfl (fun _ => Nat.le_of_ble_eq_true rfl) (fun _ => rfl) (by intro v hv; simpa using hv) ?_
  refine am_iconst (pc' := 1) dX8_sumNow_0 rfl rfl ?_
  refine am_istore_n (pc' := 2) (ls' := [_, _, _]) dX8_sumNow_1 rfl rfl (Nat.le_of_ble_eq_true rfl) rfl rfl ?_
  refine am_iconst (pc' := 3) dX8_sumNow_2 rfl rfl ?_
  refine am_istore_n (pc' := 4) (ls' := [_, _, _]) dX8_sumNow_3 rfl rfl (Nat.le_of_ble_eq_true rfl) rfl rfl ?_
  exact t8_sumNow_l hM hA hn ⟨rfl, rfl, rfl⟩ ((h 38 1).toNat + 1) 0 0 (by omega) (by omega) (by omega) (by omega) (by omega) rfl
theorem t8_doesSteps_2 {ρ h : am_H} {m : Int} {Q : am_Q} (hM : am_LM ρ) (hA : md_A h) (hq : ∀ h1, am_fr [40] h h1 → (∀ p, 0 ≤ p → p < h 38 1 → h1 40 p = h 43 p) → Q none ρ h1) :
    ∀ (n : Nat) (i : Int) (h1 : am_H), (h 38 1 - i).toNat < n → 0 ≤ i → i ≤ h 38 1 → am_fr [40] h h1 → (∀ p, 0 ≤ p → p < i → h1 40 p = h 43 p) → am_WP mX8_doesSteps 0 0 23 [some (am_R 38), some (am_I m), some (am_I i)] [] ρ h1 Q := by
  have hn58 := hM.1
  obtain ⟨a1, a2⟩ := id hA
  have e1 := am_lm hM 38 11 43 (by decide)
  have e2 := am_lm hM 38 5 40 (by decide)
  have e3 := am_lm hM 43 (-1) 5 (by decide)
  have e4 := am_lm hM 40 (-1) 5 (by decide)
  intro n
  induction n with
  | zero => intro i h1 hk; omega
  | succ n ih =>
    intro i h1 hk h0 h9 hf hr
    have g1 : h1 38 1 = h 38 1 := hf 38 1 (by simp <;> omega)
    have g2 : h1 43 i = h 43 i := hf 43 i (by simp <;> omega)
    refine am_iload_n (pc' := 24) dX8_doesSteps_23 rfl rfl rfl ?_
    refine am_aload_n (pc' := 25) dX8_doesSteps_24 rfl rfl rfl ?_
    refine am_getIk (ki := 1) (pc' := 28) (k := 1) (ci := 7) rfl dX8_doesSteps_25 rfl fl_X8_77 (by first | assumption | exact ⟨by omega, by omega, rfl⟩) rfl ?_
    refine am_icmp_ge (pc' := 31) (tgt := 49) dX8_doesSteps_28 rfl rfl (fun c_28 => ?_) (fun c_28 => ?_)
    · refine am_retv dX8_doesSteps_49 rfl ?_
      exact hq h1 hf (fun p p0 p1 => hr p p0 (by omega))
    · refine am_aload_n (pc' := 32) dX8_doesSteps_31 rfl rfl rfl ?_
      refine am_getRk (ki := 5) (pc' := 35) (k := 5) (ci := 7) rfl dX8_doesSteps_32 rfl fl_X8_13 (by first | assumption | exact ⟨by omega, by omega, rfl⟩) rfl (by assumption) (by omega) ?_
      refine am_iload_n (pc' := 36) dX8_doesSteps_35 rfl rfl rfl ?_
      refine am_aload_n (pc' := 37) dX8_doesSteps_36 rfl rfl rfl ?_
      refine am_getRk (ki := 11) (pc' := 40) (k := 11) (ci := 7) rfl dX8_doesSteps_37 rfl fl_X8_22 (by first | assumption | exact ⟨by omega, by omega, rfl⟩) rfl (by assumption) (by omega) ?_
      refine am_iload_n (pc' := 41) dX8_doesSteps_40 rfl rfl rfl ?_
      refine am_iaload (pc' := 42) dX8_doesSteps_41 rfl (by first | assumption | exact ⟨by omega, by omega, rfl⟩) (by omega) (by omega) ?_
      refine am_iastore (pc' := 43) dX8_doesSteps_42 rfl (by first | assumption | exact ⟨by omega, by omega, rfl⟩) (by omega) (by omega) ?_
      refine am_iinc (pc' := 46) (ls' := [_, _, _]) dX8_doesSteps_43 rfl rfl ⟨by omega, by omega⟩ (Nat.le_of_ble_eq_true rfl) rfl rfl ?_
      refine am_goto (pc' := 23) dX8_doesSteps_46 rfl ?_
      refine ih _ _ (by omega) (by omega) (by omega) (am_fr_u hf (by simp <;> omega)) (am_upto (fun p p0 p1 => ?_) ?_)
      · rw [am_u_n (by omega)]; exact hr p p0 p1
      · rw [am_u_s]; exact g2
theorem t8_doesSteps_1 {ρ h : am_H} {m : Int} {Q : am_Q} (hM : am_LM ρ) (hA : md_A h) (hn : mt_ok (h 38 1) (h 38 2) (h 40)) (hm : m ≤ 1000) (hq : ∀ h1, am_fr [40, 43, 44] h h1 → mt_eq (h 38 1) (h1 40) (mt_it (h 38 1) (h 38 2) (h 39) m.toNat (h 40)) → Q none ρ h1) :
    ∀ (n : Nat) (s : Int) (h1 : am_H), (m - s).toNat < n → 0 ≤ s → (s ≤ m ∨ m < 0 ∧ s = 0) → am_fr [43, 44] h h1 → mt_eq (h 38 1) (h1 43) (mt_it (h 38 1) (h 38 2) (h 39) s.toNat (h 40)) → am_WP mX8_doesSteps 0 0 6 [some (am_R 38), some (am_I m), some (am_I s)] [] ρ h1 Q := by
  have hn58 := hM.1
  obtain ⟨a1, a2⟩ := id hA
  intro n
  induction n with
  | zero => intro i h1 hk; omega
  | succ n ih =>
    intro s h1 hk h0 h9 hf hr
    have g1 : h1 38 1 = h 38 1 := hf 38 1 (by simp <;> omega)
    have g2 : h1 38 2 = h 38 2 := hf 38 2 (by simp <;> omega)
    have g3 : h1 39 = h 39 := funext fun k => hf 39 k (by simp <;> omega)
    have hA1 : md_A h1 := by unfold md_A; rw [g1, g2]; exact hA
    have hn1 : mt_ok (h1 38 1) (h1 38 2) (h1 43) := fun p p0 p1 => by
      rw [g1] at p1
      rw [hr p p0 p1, g2]
      exact mt_it_in a1.1 hn _ p p0 p1
    refine am_iload_n (pc' := 7) dX8_doesSteps_6 rfl rfl rfl ?_
    refine am_iload_n (pc' := 8) dX8_doesSteps_7 rfl rfl rfl ?_
    refine am_icmp_ge (pc' := 11) (tgt := 21) dX8_doesSteps_8 rfl rfl (fun c_8 => ?_) (fun c_8 => ?_)
    · refine am_iconst (pc' := 22) dX8_doesSteps_21 rfl rfl ?_
      refine am_istore_n (pc' := 23) (ls' := [_, _, _]) dX8_doesSteps_22 rfl rfl (Nat.le_of_ble_eq_true rfl) rfl rfl ?_
      refine t8_doesSteps_2 (h := h1) hM hA1 (fun h2 a b => hq h2 (am_fr_trans (am_fr_sub hf (by intro x hx; simp at hx ⊢; omega)) (am_fr_sub a (by intro x hx; simp at hx ⊢; omega))) (fun p p0 p1 => ?_)) ((h1 38 1).toNat + 1) 0 h1 (by omega) (by omega) (by omega) am_fr_refl (fun p z0 z1 => by omega)
      rw [b p p0 (by omega), hr p p0 p1, show s.toNat = m.toNat by omega]
    · refine am_aload_n (pc' := 12) dX8_doesSteps_11 rfl rfl rfl ?_
      refine am_callV0 (pc' := 15) (as := []) (ci := 7)  rfl dX8_doesSteps_12 rfl ok_X8_stepsOnce ml_X8_155 im_X8_stepsOnce se_X8_stepsOnce rfl (Nat.le_of_ble_eq_true rfl) rfl (Nat.le_of_ble_eq_true rfl) (by first | assumption | exact ⟨by omega, by omega, rfl⟩) (t8_stepsOnce (h := h1) hM hA1 hn1) (fun r_12 ρ_12 h_12 q_12 g_12 e_12 => ?_)
      obtain ⟨rfl, rfl, q1, q2⟩ := q_12
      refine am_iinc (pc' := 18) (ls' := [_, _, _]) dX8_doesSteps_15 rfl rfl ⟨by omega, by omega⟩ (Nat.le_of_ble_eq_true rfl) rfl rfl ?_
      refine am_goto (pc' := 6) dX8_doesSteps_18 rfl ?_
      refine ih _ _ (by omega) (by omega) (by omega) (am_fr_trans hf q1) (fun p p0 p1 => ?_)
      rw [q2 p p0 (by omega), g1, g2, g3, show (s + 1).toNat = s.toNat + 1 by omega]
      exact mt_st_eq a1.1 (fun _ _ _ => rfl) hr p p0 p1
theorem t8_doesSteps {ρ h : am_H} {m : Int} (hM : am_LM ρ) (hA : md_A h) (hn : mt_ok (h 38 1) (h 38 2) (h 40)) (hm : m ≤ 1000) : am_CT mX8_doesSteps 0 0 [am_R 38, am_I m] ρ h (fun r ρ' h' => r = none ∧ ρ' = ρ ∧ am_fr [40, 43, 44] h h' ∧ mt_eq (h 38 1) (h' 40) (mt_it (h 38 1) (h 38 2) (h 39) m.toNat (h 40))) := by
  have hn58 := hM.1
  obtain ⟨a1, a2⟩ := id hA
  refine am_ct (ls := [some (am_R 38), some (am_I m), none]) ok_X8_doesSteps rfl (fun _ => Nat.le_of_ble_eq_true rfl) (fun _ => rfl) (by intro v hv; simpa using hv) ?_
  refine am_aload_n (pc' := 1) dX8_doesSteps_0 rfl rfl rfl ?_
  refine am_callV0 (pc' := 4) (as := []) (ci := 7)  rfl dX8_doesSteps_1 rfl ok_X8_takesNow ml_X8_142 im_X8_takesNow se_X8_takesNow rfl (Nat.le_of_ble_eq_true rfl) rfl (Nat.le_of_ble_eq_true rfl) (by first | assumption | exact ⟨by omega, by omega, rfl⟩) (t8_takesNow hM (by omega)) (fun r_1 ρ_1 h_1 q_1 g_1 e_1 => ?_)
  obtain ⟨rfl, rfl, q1, q2⟩ := q_1
  refine am_iconst (pc' := 5) dX8_doesSteps_4 rfl rfl ?_
  refine am_istore_n (pc' := 6) (ls' := [_, _, _]) dX8_doesSteps_5 rfl rfl (Nat.le_of_ble_eq_true rfl) rfl rfl ?_
  exact t8_doesSteps_1 hM hA hn hm (fun h1 a b => ⟨rfl, rfl, a, b⟩) (m.toNat + 1) 0 _ (by omega) (by omega) (by omega) (am_fr_sub q1 (by intro x hx; simp at hx ⊢; omega)) (fun p p0 p1 => q2 p p0 p1)
