/-! the model: cell 38; 0 fault, 1 places, 2 base, 3 stepsDone, 39 kindOf, 40 numberOf, 43 at, 44 then -/
section AMR
variable {M : am_M} {bc bs pc : Nat} {ls : List (Option am_V)} {st : List am_V} {ρ h : am_H} {Q : am_Q}
theorem am_WPol (k : (∀ v, some v ∈ ls → am_okV (ρ 0 0) v) → am_WP M bc bs pc ls st ρ h Q) : am_WP M bc bs pc ls st ρ h Q := by
  intro p l e R s m args below meth c Z D cI cS A n0 ad0 Cx ad H locs cells slots lc rl os ol hl hcs hss
  exact k ol p l e R s m args below meth c Z D cI cS A n0 ad0 Cx ad H locs cells slots lc rl os ol hl hcs hss
end AMR
def md_A (h : am_H) : Prop := (2 ≤ h 38 1 ∧ h 38 1 ≤ 5) ∧ (2 ≤ h 38 2 ∧ h 38 2 ≤ 6)
theorem t8_in {ρ h : am_H} {v l u : Int} : am_CT mX8_in 0 0 [am_L v, am_L l, am_L u] ρ h (am_P (am_I (if l ≤ v ∧ v ≤ u then 1 else 0)) ρ h) := by
  refine am_ct (ls := [some (am_L v), none, some (am_L l), none, some (am_L u), none]) ok_X8_in rfl (fun _ => Nat.le_of_ble_eq_true rfl) (fun _ => rfl) (by intro v hv; simpa using hv) ?_
  refine am_lload_n (pc' := 1) dX8_in_0 rfl rfl rfl ?_
  refine am_lload_n (pc' := 2) dX8_in_1 rfl rfl rfl ?_
  refine am_lcmp_lt (pc1 := 3) (pc' := 6) (tgt := 17) dX8_in_2 rfl dX8_in_3 rfl rfl (fun c_2 => ?_) (fun c_2 => ?_)
  · refine am_iconst (pc' := 18) dX8_in_17 rfl rfl ?_
    refine am_retz dX8_in_18 rfl (by first | exact Or.inl rfl | exact Or.inr rfl | omega) ?_
    exact ⟨by first | rw [if_pos (by omega)] | rw [if_neg (by omega)], rfl, rfl⟩
  · refine am_lload_n (pc' := 7) dX8_in_6 rfl rfl rfl ?_
    refine am_lload (pc' := 9) dX8_in_7 rfl rfl ?_
    refine am_lcmp_gt (pc1 := 10) (pc' := 13) (tgt := 17) dX8_in_9 rfl dX8_in_10 rfl rfl (fun c_9 => ?_) (fun c_9 => ?_)
    · refine am_iconst (pc' := 18) dX8_in_17 rfl rfl ?_
      refine am_retz dX8_in_18 rfl (by first | exact Or.inl rfl | exact Or.inr rfl | omega) ?_
      exact ⟨by first | rw [if_pos (by omega)] | rw [if_neg (by omega)], rfl, rfl⟩
    · refine am_iconst (pc' := 14) dX8_in_13 rfl rfl ?_
      refine am_goto (pc' := 18) dX8_in_14 rfl ?_
      refine am_retz dX8_in_18 rfl (by first | exact Or.inl rfl | exact Or.inr rfl | omega) ?_
      exact ⟨by first | rw [if_pos (by omega)] | rw [if_neg (by omega)], rfl, rfl⟩
theorem t8_lost {ρ h : am_H} : am_CT mX8_lost 0 0 [] ρ h (am_P (am_L (-9223372036854775808)) ρ h) := by
  refine am_ct (ls := []) ok_X8_lost rfl (fun _ => Nat.le_of_ble_eq_true rfl) (fun _ => rfl) (by intro v hv; simpa using hv) ?_
  refine am_ldc2 (pc' := 3) (x := -9223372036854775808) dX8_lost_0 rfl kl_X8_67 rfl rfl ?_
  refine am_retl dX8_lost_3 rfl ?_
  exact ⟨rfl, rfl, rfl⟩
theorem t8_refused {ρ h : am_H} {v : Int} (hM : am_LM ρ) : am_CT mX8_refused 0 0 [am_R 38, am_I v] ρ h (fun r ρ' h' => r = some (am_I v) ∧ ρ' = ρ ∧ h' = am_u h 38 0 0) := by
  have hn58 := hM.1
  refine am_ct (ls := [some (am_R 38), some (am_I v)]) ok_X8_refused rfl (fun _ => Nat.le_of_ble_eq_true rfl) (fun _ => rfl) (by intro v hv; simpa using hv) ?_
  refine am_aload_n (pc' := 1) dX8_refused_0 rfl rfl rfl ?_
  refine am_iconst (pc' := 2) dX8_refused_1 rfl rfl ?_
  refine am_putIk (ki := 0) (pc' := 5) (k := 0) (ci := 7) rfl dX8_refused_2 rfl fl_X8_69 (by first | assumption | exact ⟨by omega, by omega, rfl⟩) rfl (fun _ _ _ e => by cases e; rfl) ?_
  refine am_iload_n (pc' := 6) dX8_refused_5 rfl rfl rfl ?_
  refine am_reti dX8_refused_6 rfl ?_
  exact ⟨rfl, rfl, rfl⟩
theorem t8_failed {ρ h : am_H} {f : Int} (hM : am_LM ρ) (hf : 0 ≤ f ∧ f ≤ 4) : am_CT mX8_failed 0 0 [am_R 38, am_I f] ρ h (fun r ρ' h' => r = some (am_I (-10 - f)) ∧ ρ' = ρ ∧ h' = am_u h 38 0 f) := by
  have hn58 := hM.1
  refine am_ct (ls := [some (am_R 38), some (am_I f)]) ok_X8_failed rfl (fun _ => Nat.le_of_ble_eq_true rfl) (fun _ => rfl) (by intro v hv; simpa using hv) ?_
  refine am_aload_n (pc' := 1) dX8_failed_0 rfl rfl rfl ?_
  refine am_iload_n (pc' := 2) dX8_failed_1 rfl rfl rfl ?_
  refine am_putIk (ki := 0) (pc' := 5) (k := 0) (ci := 7) rfl dX8_failed_2 rfl fl_X8_69 (by first | assumption | exact ⟨by omega, by omega, rfl⟩) rfl (fun _ _ _ e => by cases e; rfl) ?_
  refine am_bipush (pc' := 7) dX8_failed_5 rfl rfl (by decide) ?_
  refine am_iload_n (pc' := 8) dX8_failed_7 rfl rfl rfl ?_
  refine am_isub (pc' := 9) dX8_failed_8 rfl ⟨by omega, by omega⟩ ?_
  refine am_reti dX8_failed_9 rfl ?_
  exact ⟨rfl, rfl, rfl⟩
theorem t8_failedLong {ρ h : am_H} {f : Int} (hM : am_LM ρ) : am_CT mX8_failedLong 0 0 [am_R 38, am_I f] ρ h (fun r ρ' h' => r = some (am_L (-9223372036854775808)) ∧ ρ' = ρ ∧ h' = am_u h 38 0 f) := by
  have hn58 := hM.1
  refine am_ct (ls := [some (am_R 38), some (am_I f)]) ok_X8_failedLong rfl (fun _ => Nat.le_of_ble_eq_true rfl) (fun _ => rfl) (by intro v hv; simpa using hv) ?_
  refine am_aload_n (pc' := 1) dX8_failedLong_0 rfl rfl rfl ?_
  refine am_iload_n (pc' := 2) dX8_failedLong_1 rfl rfl rfl ?_
  refine am_putIk (ki := 0) (pc' := 5) (k := 0) (ci := 7) rfl dX8_failedLong_2 rfl fl_X8_69 (by first | assumption | exact ⟨by omega, by omega, rfl⟩) rfl (fun _ _ _ e => by cases e; rfl) ?_
  refine am_callSp (pc' := 8) (as := [])  rfl dX8_failedLong_5 rfl ok_X8_lost ml_X8_73 sm_X8_lost (Nat.le_of_ble_eq_true rfl) rfl (Nat.le_of_ble_eq_true rfl) (t8_lost) ?_
  refine am_retl dX8_failedLong_8 rfl ?_
  exact ⟨rfl, rfl, rfl⟩
theorem t8_noPlace {ρ h : am_H} {p : Int} (hM : am_LM ρ) (hP : 0 ≤ h 38 1 ∧ h 38 1 ≤ 5) : am_CT mX8_noPlace 0 0 [am_R 38, am_I p] ρ h (am_P (am_I (if ¬ (0 ≤ p ∧ p < h 38 1) then 1 else 0)) ρ h) := by
  have hn58 := hM.1
  refine am_ct (ls := [some (am_R 38), some (am_I p)]) ok_X8_noPlace rfl (fun _ => Nat.le_of_ble_eq_true rfl) (fun _ => rfl) (by intro v hv; simpa using hv) ?_
  refine am_iload_n (pc' := 1) dX8_noPlace_0 rfl rfl rfl ?_
  refine am_i2l (pc' := 2) dX8_noPlace_1 rfl ?_
  refine am_lconst0 (pc' := 3) dX8_noPlace_2 rfl ?_
  refine am_aload_n (pc' := 4) dX8_noPlace_3 rfl rfl rfl ?_
  refine am_getIk (ki := 1) (pc' := 7) (k := 1) (ci := 7) rfl dX8_noPlace_4 rfl fl_X8_77 (by first | assumption | exact ⟨by omega, by omega, rfl⟩) rfl ?_
  refine am_i2l (pc' := 8) dX8_noPlace_7 rfl ?_
  refine am_lconst1 (pc' := 9) dX8_noPlace_8 rfl ?_
  refine am_lsub (pc' := 10) dX8_noPlace_9 rfl ⟨by omega, by omega⟩ ?_
  refine am_callSp (pc' := 13) (as := [_, _, _])  rfl dX8_noPlace_10 rfl ok_X8_in ml_X8_80 sm_X8_in (Nat.le_of_ble_eq_true rfl) rfl (Nat.le_of_ble_eq_true rfl) (t8_in) ?_
  refine am_if_ne (pc' := 16) (tgt := 20) dX8_noPlace_13 rfl rfl (fun c_13 => ?_) (fun c_13 => ?_)
  · simp only [am_z0, am_z1, ne_eq] at c_13
    refine am_iconst (pc' := 21) dX8_noPlace_20 rfl rfl ?_
    refine am_retz dX8_noPlace_21 rfl (by first | exact Or.inl rfl | exact Or.inr rfl | omega) ?_
    exact ⟨by first | rw [if_pos (by omega)] | rw [if_neg (by omega)], rfl, rfl⟩
  · simp only [am_z0, am_z1, ne_eq] at c_13
    refine am_iconst (pc' := 17) dX8_noPlace_16 rfl rfl ?_
    refine am_goto (pc' := 21) dX8_noPlace_17 rfl ?_
    refine am_retz dX8_noPlace_21 rfl (by first | exact Or.inl rfl | exact Or.inr rfl | omega) ?_
    exact ⟨by first | rw [if_pos (by omega)] | rw [if_neg (by omega)], rfl, rfl⟩
theorem t8_noSheet {ρ h : am_H} {k : Int} : am_CT mX8_noSheet 0 0 [am_I k] ρ h (am_P (am_I (if ¬ (0 ≤ k ∧ k < 4) then 1 else 0)) ρ h) := by
  refine am_ct (ls := [some (am_I k)]) ok_X8_noSheet rfl (fun _ => Nat.le_of_ble_eq_true rfl) (fun _ => rfl) (by intro v hv; simpa using hv) ?_
  refine am_iload_n (pc' := 1) dX8_noSheet_0 rfl rfl rfl ?_
  refine am_i2l (pc' := 2) dX8_noSheet_1 rfl ?_
  refine am_lconst0 (pc' := 3) dX8_noSheet_2 rfl ?_
  refine am_ldc2 (pc' := 6) (x := 3) dX8_noSheet_3 rfl kl_X8_254 rfl rfl ?_
  refine am_callSp (pc' := 9) (as := [_, _, _])  rfl dX8_noSheet_6 rfl ok_X8_in ml_X8_80 sm_X8_in (Nat.le_of_ble_eq_true rfl) rfl (Nat.le_of_ble_eq_true rfl) (t8_in) ?_
  refine am_if_ne (pc' := 12) (tgt := 16) dX8_noSheet_9 rfl rfl (fun c_9 => ?_) (fun c_9 => ?_)
  · simp only [am_z0, am_z1, ne_eq] at c_9
    refine am_iconst (pc' := 17) dX8_noSheet_16 rfl rfl ?_
    refine am_retz dX8_noSheet_17 rfl (by first | exact Or.inl rfl | exact Or.inr rfl | omega) ?_
    exact ⟨by first | rw [if_pos (by omega)] | rw [if_neg (by omega)], rfl, rfl⟩
  · simp only [am_z0, am_z1, ne_eq] at c_9
    refine am_iconst (pc' := 13) dX8_noSheet_12 rfl rfl ?_
    refine am_goto (pc' := 17) dX8_noSheet_13 rfl ?_
    refine am_retz dX8_noSheet_17 rfl (by first | exact Or.inl rfl | exact Or.inr rfl | omega) ?_
    exact ⟨by first | rw [if_pos (by omega)] | rw [if_neg (by omega)], rfl, rfl⟩
theorem t8_isNumber {ρ h : am_H} {v : Int} (hM : am_LM ρ) (hB : 0 ≤ h 38 2 ∧ h 38 2 ≤ 6) : am_CT mX8_isNumber 0 0 [am_R 38, am_I v] ρ h (am_P (am_I (if 0 ≤ v ∧ v < h 38 2 then 1 else 0)) ρ h) := by
  have hn58 := hM.1
  refine am_ct (ls := [some (am_R 38), some (am_I v)]) ok_X8_isNumber rfl (fun _ => Nat.le_of_ble_eq_true rfl) (fun _ => rfl) (by intro v hv; simpa using hv) ?_
  refine am_iload_n (pc' := 1) dX8_isNumber_0 rfl rfl rfl ?_
  refine am_i2l (pc' := 2) dX8_isNumber_1 rfl ?_
  refine am_lconst0 (pc' := 3) dX8_isNumber_2 rfl ?_
  refine am_aload_n (pc' := 4) dX8_isNumber_3 rfl rfl rfl ?_
  refine am_getIk (ki := 2) (pc' := 7) (k := 2) (ci := 7) rfl dX8_isNumber_4 rfl fl_X8_127 (by first | assumption | exact ⟨by omega, by omega, rfl⟩) rfl ?_
  refine am_i2l (pc' := 8) dX8_isNumber_7 rfl ?_
  refine am_lconst1 (pc' := 9) dX8_isNumber_8 rfl ?_
  refine am_lsub (pc' := 10) dX8_isNumber_9 rfl ⟨by omega, by omega⟩ ?_
  refine am_callSp (pc' := 13) (as := [_, _, _])  rfl dX8_isNumber_10 rfl ok_X8_in ml_X8_80 sm_X8_in (Nat.le_of_ble_eq_true rfl) rfl (Nat.le_of_ble_eq_true rfl) (t8_in) ?_
  refine am_retz dX8_isNumber_13 rfl (by split <;> omega) ?_
  have e9 : (0 ≤ v ∧ v ≤ h 38 2 - 1) ↔ (0 ≤ v ∧ v < h 38 2) := by omega
  exact ⟨by simp only [e9], rfl, rfl⟩
theorem t8_traced {ρ h : am_H} {b : Int} (hM : am_LM ρ) : am_CT mX8_traced 0 0 [am_R 38, am_I b] ρ h (fun r ρ' h' => r = none ∧ ρ' = ρ ∧ h' = am_u h 38 31 (o_lv (h 38 31) b)) := by
  have hn58 := hM.1
  refine am_ct (ls := [some (am_R 38), some (am_I b)]) ok_X8_traced rfl (fun _ => Nat.le_of_ble_eq_true rfl) (fun _ => rfl) (by intro v hv; simpa using hv) ?_
  refine am_aload_n (pc' := 1) dX8_traced_0 rfl rfl rfl ?_
  refine am_bipush (pc' := 3) dX8_traced_1 rfl rfl (by decide) ?_
  refine am_aload_n (pc' := 4) dX8_traced_3 rfl rfl rfl ?_
  refine am_getIk (ki := 31) (pc' := 7) (k := 31) (ci := 7) rfl dX8_traced_4 rfl fl_X8_263 (by first | assumption | exact ⟨by omega, by omega, rfl⟩) rfl ?_
  refine am_imulw (pc' := 8) dX8_traced_7 rfl ?_
  refine am_iload_n (pc' := 9) dX8_traced_8 rfl rfl rfl ?_
  refine am_iaddw (pc' := 10) dX8_traced_9 rfl ?_
  refine am_putIk (ki := 31) (pc' := 13) (k := 31) (ci := 7) rfl dX8_traced_10 rfl fl_X8_263 (by first | assumption | exact ⟨by omega, by omega, rfl⟩) rfl (fun _ _ _ e => by cases e; rfl) ?_
  refine am_retv dX8_traced_13 rfl ?_
  exact ⟨rfl, rfl, rfl⟩
theorem t8_apart {ρ h : am_H} {a b : Int} (ha : 0 ≤ a ∧ a ≤ 100) (hb : 0 ≤ b ∧ b ≤ 100) : am_CT mX8_apart 0 0 [am_I a, am_I b] ρ h (am_P (am_I (mt_abs (a - b))) ρ h) := by
  refine am_ct (ls := [some (am_I a), some (am_I b)]) ok_X8_apart rfl (fun _ => Nat.le_of_ble_eq_true rfl) (fun _ => rfl) (by intro v hv; simpa using hv) ?_
  refine am_iload_n (pc' := 1) dX8_apart_0 rfl rfl rfl ?_
  refine am_iload_n (pc' := 2) dX8_apart_1 rfl rfl rfl ?_
  refine am_icmp_le (pc' := 5) (tgt := 11) dX8_apart_2 rfl rfl (fun c_2 => ?_) (fun c_2 => ?_)
  · refine am_iload_n (pc' := 12) dX8_apart_11 rfl rfl rfl ?_
    refine am_iload_n (pc' := 13) dX8_apart_12 rfl rfl rfl ?_
    refine am_isub (pc' := 14) dX8_apart_13 rfl ⟨by omega, by omega⟩ ?_
    refine am_reti dX8_apart_14 rfl ?_
    exact ⟨by unfold mt_abs; congr 2; first | rw [if_pos (by omega)] | (split <;> omega), rfl, rfl⟩
  · refine am_iload_n (pc' := 6) dX8_apart_5 rfl rfl rfl ?_
    refine am_iload_n (pc' := 7) dX8_apart_6 rfl rfl rfl ?_
    refine am_isub (pc' := 8) dX8_apart_7 rfl ⟨by omega, by omega⟩ ?_
    refine am_goto (pc' := 14) dX8_apart_8 rfl ?_
    refine am_reti dX8_apart_14 rfl ?_
    exact ⟨by unfold mt_abs; congr 2; first | rw [if_pos (by omega)] | (split <;> omega), rfl, rfl⟩
theorem ix_mod {P p a : Int} (hP : 2 ≤ P ∧ P ≤ 5) (hp : 0 ≤ p ∧ p < P) (ha : a = 1 ∨ a = 2) : (p + a) % P = mt_ix P p a := by
  unfold mt_ix
  rcases (show P = 2 ∨ P = 3 ∨ P = 4 ∨ P = 5 by omega) with rfl | rfl | rfl | rfl <;> split <;> omega
theorem b_mod {B x y : Int} (hB : 2 ≤ B ∧ B ≤ 6) (hx : 0 ≤ x ∧ x < B) (hy : 0 ≤ y ∧ y < B) : (y + x) % B = if x + y < B then x + y else x + y - B := by
  rcases (show B = 2 ∨ B = 3 ∨ B = 4 ∨ B = 5 ∨ B = 6 by omega) with rfl | rfl | rfl | rfl | rfl <;> split <;> omega
theorem t8_becomes {ρ h : am_H} {p : Int} (hM : am_LM ρ) (hA : md_A h) (hn : mt_ok (h 38 1) (h 38 2) (h 43)) (hp : 0 ≤ p ∧ p < h 38 1) : am_CT mX8_becomes 0 0 [am_R 38, am_I p] ρ h (am_P (am_I (mt_st (h 38 1) (h 38 2) (h 39) (h 43) p)) ρ h) := by
  have hn58 := hM.1
  obtain ⟨a1, a2⟩ := id hA
  have e1 := am_lm hM 38 11 43 (by decide)
  have e2 := am_lm hM 38 4 39 (by decide)
  have e3 := am_lm hM 43 (-1) 5 (by decide)
  have e4 := am_lm hM 39 (-1) 5 (by decide)
  have f1 := mt_far_in a1.1 hn hp.1 hp.2 (Or.inl rfl)
  have f2 := mt_far_in a1.1 hn hp.1 hp.2 (Or.inr rfl)
  have x1 := mt_ix_in a1.1 hp.1 hp.2 (Or.inl rfl)
  have x2 := mt_ix_in a1.1 hp.1 hp.2 (Or.inr rfl)
  have v0 := hn p hp.1 hp.2
  have v1 := hn _ x1.1 x1.2
  have v2 := hn _ x2.1 x2.2
  refine am_ct (ls := [some (am_R 38), some (am_I p), none, none]) ok_X8_becomes rfl (fun _ => Nat.le_of_ble_eq_true rfl) (fun _ => rfl) (by intro v hv; simpa using hv) ?_
  refine am_aload_n (pc' := 1) dX8_becomes_0 rfl rfl rfl ?_
  refine am_getRk (ki := 11) (pc' := 4) (k := 11) (ci := 7) rfl dX8_becomes_1 rfl fl_X8_22 (by first | assumption | exact ⟨by omega, by omega, rfl⟩) rfl (by assumption) (by omega) ?_
  refine am_iload_n (pc' := 5) dX8_becomes_4 rfl rfl rfl ?_
  refine am_iaload (pc' := 6) dX8_becomes_5 rfl (by first | assumption | exact ⟨by omega, by omega, rfl⟩) (by omega) (by omega) ?_
  refine am_aload_n (pc' := 7) dX8_becomes_6 rfl rfl rfl ?_
  refine am_getRk (ki := 11) (pc' := 10) (k := 11) (ci := 7) rfl dX8_becomes_7 rfl fl_X8_22 (by first | assumption | exact ⟨by omega, by omega, rfl⟩) rfl (by assumption) (by omega) ?_
  refine am_iload_n (pc' := 11) dX8_becomes_10 rfl rfl rfl ?_
  refine am_iconst (pc' := 12) dX8_becomes_11 rfl rfl ?_
  refine am_iadd (pc' := 13) dX8_becomes_12 rfl ⟨by omega, by omega⟩ ?_
  refine am_aload_n (pc' := 14) dX8_becomes_13 rfl rfl rfl ?_
  refine am_getIk (ki := 1) (pc' := 17) (k := 1) (ci := 7) rfl dX8_becomes_14 rfl fl_X8_77 (by first | assumption | exact ⟨by omega, by omega, rfl⟩) rfl ?_
  refine am_irem (pc' := 18) dX8_becomes_17 rfl (by omega) (by omega) ?_
  rw [ix_mod a1 hp (Or.inl rfl)]
  refine am_iaload (pc' := 19) dX8_becomes_18 rfl (by first | assumption | exact ⟨by omega, by omega, rfl⟩) (by omega) (by omega) ?_
  refine am_callSp (pc' := 22) (as := [_, _])  rfl dX8_becomes_19 rfl ok_X8_apart ml_X8_136 sm_X8_apart (Nat.le_of_ble_eq_true rfl) rfl (Nat.le_of_ble_eq_true rfl) (t8_apart (by omega) (by omega)) ?_
  change am_WP _ _ _ _ _ [am_I (mt_far (h 38 1) (h 43) p 1)] _ _ _
  refine am_istore_n (pc' := 23) (ls' := [_, _, _, _]) dX8_becomes_22 rfl rfl (Nat.le_of_ble_eq_true rfl) rfl rfl ?_
  refine am_aload_n (pc' := 24) dX8_becomes_23 rfl rfl rfl ?_
  refine am_getRk (ki := 11) (pc' := 27) (k := 11) (ci := 7) rfl dX8_becomes_24 rfl fl_X8_22 (by first | assumption | exact ⟨by omega, by omega, rfl⟩) rfl (by assumption) (by omega) ?_
  refine am_iload_n (pc' := 28) dX8_becomes_27 rfl rfl rfl ?_
  refine am_iaload (pc' := 29) dX8_becomes_28 rfl (by first | assumption | exact ⟨by omega, by omega, rfl⟩) (by omega) (by omega) ?_
  refine am_aload_n (pc' := 30) dX8_becomes_29 rfl rfl rfl ?_
  refine am_getRk (ki := 11) (pc' := 33) (k := 11) (ci := 7) rfl dX8_becomes_30 rfl fl_X8_22 (by first | assumption | exact ⟨by omega, by omega, rfl⟩) rfl (by assumption) (by omega) ?_
  refine am_iload_n (pc' := 34) dX8_becomes_33 rfl rfl rfl ?_
  refine am_iconst (pc' := 35) dX8_becomes_34 rfl rfl ?_
  refine am_iadd (pc' := 36) dX8_becomes_35 rfl ⟨by omega, by omega⟩ ?_
  refine am_aload_n (pc' := 37) dX8_becomes_36 rfl rfl rfl ?_
  refine am_getIk (ki := 1) (pc' := 40) (k := 1) (ci := 7) rfl dX8_becomes_37 rfl fl_X8_77 (by first | assumption | exact ⟨by omega, by omega, rfl⟩) rfl ?_
  refine am_irem (pc' := 41) dX8_becomes_40 rfl (by omega) (by omega) ?_
  rw [ix_mod a1 hp (Or.inr rfl)]
  refine am_iaload (pc' := 42) dX8_becomes_41 rfl (by first | assumption | exact ⟨by omega, by omega, rfl⟩) (by omega) (by omega) ?_
  refine am_callSp (pc' := 45) (as := [_, _])  rfl dX8_becomes_42 rfl ok_X8_apart ml_X8_136 sm_X8_apart (Nat.le_of_ble_eq_true rfl) rfl (Nat.le_of_ble_eq_true rfl) (t8_apart (by omega) (by omega)) ?_
  change am_WP _ _ _ _ _ [am_I (mt_far (h 38 1) (h 43) p 2)] _ _ _
  refine am_istore_n (pc' := 46) (ls' := [_, _, _, _]) dX8_becomes_45 rfl rfl (Nat.le_of_ble_eq_true rfl) rfl rfl ?_
  refine am_aload_n (pc' := 47) dX8_becomes_46 rfl rfl rfl ?_
  refine am_getRk (ki := 4) (pc' := 50) (k := 4) (ci := 7) rfl dX8_becomes_47 rfl fl_X8_7 (by first | assumption | exact ⟨by omega, by omega, rfl⟩) rfl (by assumption) (by omega) ?_
  refine am_iload_n (pc' := 51) dX8_becomes_50 rfl rfl rfl ?_
  refine am_iaload (pc' := 52) dX8_becomes_51 rfl (by first | assumption | exact ⟨by omega, by omega, rfl⟩) (by omega) (by omega) ?_
  refine am_if_ne (pc' := 55) (tgt := 59) dX8_becomes_52 rfl rfl (fun c_52 => ?_) (fun c_52 => ?_)
  · refine am_aload_n (pc' := 60) dX8_becomes_59 rfl rfl rfl ?_
    refine am_getRk (ki := 4) (pc' := 63) (k := 4) (ci := 7) rfl dX8_becomes_60 rfl fl_X8_7 (by first | assumption | exact ⟨by omega, by omega, rfl⟩) rfl (by assumption) (by omega) ?_
    refine am_iload_n (pc' := 64) dX8_becomes_63 rfl rfl rfl ?_
    refine am_iaload (pc' := 65) dX8_becomes_64 rfl (by first | assumption | exact ⟨by omega, by omega, rfl⟩) (by omega) (by omega) ?_
    refine am_iconst (pc' := 66) dX8_becomes_65 rfl rfl ?_
    refine am_icmp_ne (pc' := 69) (tgt := 73) dX8_becomes_66 rfl rfl (fun c_66 => ?_) (fun c_66 => ?_)
    · refine am_iload_n (pc' := 74) dX8_becomes_73 rfl rfl rfl ?_
      refine am_iload_n (pc' := 75) dX8_becomes_74 rfl rfl rfl ?_
      refine am_iadd (pc' := 76) dX8_becomes_75 rfl ⟨by omega, by omega⟩ ?_
      refine am_aload_n (pc' := 77) dX8_becomes_76 rfl rfl rfl ?_
      refine am_getIk (ki := 2) (pc' := 80) (k := 2) (ci := 7) rfl dX8_becomes_77 rfl fl_X8_127 (by first | assumption | exact ⟨by omega, by omega, rfl⟩) rfl ?_
      refine am_irem (pc' := 81) dX8_becomes_80 rfl (by omega) (by omega) ?_
      refine am_reti dX8_becomes_81 rfl ?_
      unfold mt_st
      first | exact ⟨by rw [if_pos (by omega)], rfl, rfl⟩ | exact ⟨by rw [if_neg (by omega), if_pos (by omega)], rfl, rfl⟩ | exact ⟨by rw [if_neg (by omega), if_neg (by omega), b_mod a2 f1 f2], rfl, rfl⟩ | fail
    · refine am_iload_n (pc' := 70) dX8_becomes_69 rfl rfl rfl ?_
      refine am_goto (pc' := 81) dX8_becomes_70 rfl ?_
      refine am_reti dX8_becomes_81 rfl ?_
      unfold mt_st
      first | exact ⟨by rw [if_pos (by omega)], rfl, rfl⟩ | exact ⟨by rw [if_neg (by omega), if_pos (by omega)], rfl, rfl⟩ | exact ⟨by rw [if_neg (by omega), if_neg (by omega), b_mod a2 f1 f2], rfl, rfl⟩ | fail
  · refine am_iload_n (pc' := 56) dX8_becomes_55 rfl rfl rfl ?_
    refine am_goto (pc' := 81) dX8_becomes_56 rfl ?_
    refine am_reti dX8_becomes_81 rfl ?_
    unfold mt_st
    first | exact ⟨by rw [if_pos (by omega)], rfl, rfl⟩ | exact ⟨by rw [if_neg (by omega), if_pos (by omega)], rfl, rfl⟩ | exact ⟨by rw [if_neg (by omega), if_neg (by omega), b_mod a2 f1 f2], rfl, rfl⟩ | fail
theorem t8_stepsOnce_2 {ρ h : am_H} {Q : am_Q} (hM : am_LM ρ) (hA : md_A h) (hq : ∀ h1, am_fr [43] h h1 → (∀ p, 0 ≤ p → p < h 38 1 → h1 43 p = h 44 p) → Q none ρ h1) :
    ∀ (n : Nat) (i : Int) (h1 : am_H), (h 38 1 - i).toNat < n → 0 ≤ i → i ≤ h 38 1 → am_fr [43] h h1 → (∀ p, 0 ≤ p → p < i → h1 43 p = h 44 p) → am_WP mX8_stepsOnce 0 0 29 [some (am_R 38), some (am_I i)] [] ρ h1 Q := by
  have hn58 := hM.1
  obtain ⟨a1, a2⟩ := id hA
  have e1 := am_lm hM 38 11 43 (by decide)
  have e2 := am_lm hM 38 12 44 (by decide)
  have e3 := am_lm hM 43 (-1) 5 (by decide)
  have e4 := am_lm hM 44 (-1) 5 (by decide)
  intro n
  induction n with
  | zero => intro i h1 hk; omega
  | succ n ih =>
    intro i h1 hk h0 h9 hf hr
    have g1 : h1 38 1 = h 38 1 := hf 38 1 (by simp <;> omega)
    have g2 : h1 44 i = h 44 i := hf 44 i (by simp <;> omega)
    refine am_iload_n (pc' := 30) dX8_stepsOnce_29 rfl rfl rfl ?_
    refine am_aload_n (pc' := 31) dX8_stepsOnce_30 rfl rfl rfl ?_
    refine am_getIk (ki := 1) (pc' := 34) (k := 1) (ci := 7) rfl dX8_stepsOnce_31 rfl fl_X8_77 (by first | assumption | exact ⟨by omega, by omega, rfl⟩) rfl ?_
    refine am_icmp_ge (pc' := 37) (tgt := 55) dX8_stepsOnce_34 rfl rfl (fun c_34 => ?_) (fun c_34 => ?_)
    · refine am_retv dX8_stepsOnce_55 rfl ?_
      exact hq h1 hf (fun p p0 p1 => hr p p0 (by omega))
    · refine am_aload_n (pc' := 38) dX8_stepsOnce_37 rfl rfl rfl ?_
      refine am_getRk (ki := 11) (pc' := 41) (k := 11) (ci := 7) rfl dX8_stepsOnce_38 rfl fl_X8_22 (by first | assumption | exact ⟨by omega, by omega, rfl⟩) rfl (by assumption) (by omega) ?_
      refine am_iload_n (pc' := 42) dX8_stepsOnce_41 rfl rfl rfl ?_
      refine am_aload_n (pc' := 43) dX8_stepsOnce_42 rfl rfl rfl ?_
      refine am_getRk (ki := 12) (pc' := 46) (k := 12) (ci := 7) rfl dX8_stepsOnce_43 rfl fl_X8_25 (by first | assumption | exact ⟨by omega, by omega, rfl⟩) rfl (by assumption) (by omega) ?_
      refine am_iload_n (pc' := 47) dX8_stepsOnce_46 rfl rfl rfl ?_
      refine am_iaload (pc' := 48) dX8_stepsOnce_47 rfl (by first | assumption | exact ⟨by omega, by omega, rfl⟩) (by omega) (by omega) ?_
      refine am_iastore (pc' := 49) dX8_stepsOnce_48 rfl (by first | assumption | exact ⟨by omega, by omega, rfl⟩) (by omega) (by omega) ?_
      refine am_iinc (pc' := 52) (ls' := [_, _]) dX8_stepsOnce_49 rfl rfl ⟨by omega, by omega⟩ (Nat.le_of_ble_eq_true rfl) rfl rfl ?_
      refine am_goto (pc' := 29) dX8_stepsOnce_52 rfl ?_
      refine ih _ _ (by omega) (by omega) (by omega) (am_fr_u hf (by simp <;> omega)) (am_upto (fun p p0 p1 => ?_) ?_)
      · rw [am_u_n (by omega)]; exact hr p p0 p1
      · rw [am_u_s]; exact g2
theorem t8_stepsOnce_1 {ρ h : am_H} {Q : am_Q} (hM : am_LM ρ) (hA : md_A h) (hn : mt_ok (h 38 1) (h 38 2) (h 43)) (hq : ∀ h1, am_fr [43, 44] h h1 → mt_eq (h 38 1) (h1 43) (mt_st (h 38 1) (h 38 2) (h 39) (h 43)) → Q none ρ h1) :
    ∀ (n : Nat) (i : Int) (h1 : am_H), (h 38 1 - i).toNat < n → 0 ≤ i → i ≤ h 38 1 → am_fr [44] h h1 → (∀ p, 0 ≤ p → p < i → h1 44 p = mt_st (h 38 1) (h 38 2) (h 39) (h 43) p) → am_WP mX8_stepsOnce 0 0 2 [some (am_R 38), some (am_I i)] [] ρ h1 Q := by
  have hn58 := hM.1
  obtain ⟨a1, a2⟩ := id hA
  have e2 := am_lm hM 38 12 44 (by decide)
  have e4 := am_lm hM 44 (-1) 5 (by decide)
  intro n
  induction n with
  | zero => intro i h1 hk; omega
  | succ n ih =>
    intro i h1 hk h0 h9 hf hr
    have g1 : h1 38 1 = h 38 1 := hf 38 1 (by simp <;> omega)
    have g2 : h1 38 2 = h 38 2 := hf 38 2 (by simp <;> omega)
    have g3 : h1 43 = h 43 := funext fun k => hf 43 k (by simp <;> omega)
    have g4 : h1 39 = h 39 := funext fun k => hf 39 k (by simp <;> omega)
    have hA1 : md_A h1 := by unfold md_A; rw [g1, g2]; exact hA
    refine am_iload_n (pc' := 3) dX8_stepsOnce_2 rfl rfl rfl ?_
    refine am_aload_n (pc' := 4) dX8_stepsOnce_3 rfl rfl rfl ?_
    refine am_getIk (ki := 1) (pc' := 7) (k := 1) (ci := 7) rfl dX8_stepsOnce_4 rfl fl_X8_77 (by first | assumption | exact ⟨by omega, by omega, rfl⟩) rfl ?_
    refine am_icmp_ge (pc' := 10) (tgt := 27) dX8_stepsOnce_7 rfl rfl (fun c_7 => ?_) (fun c_7 => ?_)
    · refine am_iconst (pc' := 28) dX8_stepsOnce_27 rfl rfl ?_
      refine am_istore_n (pc' := 29) (ls' := [_, _]) dX8_stepsOnce_28 rfl rfl (Nat.le_of_ble_eq_true rfl) rfl rfl ?_
      refine t8_stepsOnce_2 (h := h1) hM hA1 (fun h2 a b => hq h2 (am_fr_trans (am_fr_sub hf (by intro x hx; simp at hx ⊢; omega)) (am_fr_sub a (by intro x hx; simp at hx ⊢; omega))) (fun p p0 p1 => ?_)) ((h1 38 1).toNat + 1) 0 h1 (by omega) (by omega) (by omega) am_fr_refl (fun p z0 z1 => by omega)
      rw [b p p0 (by omega)]; exact hr p p0 (by omega)
    · refine am_aload_n (pc' := 11) dX8_stepsOnce_10 rfl rfl rfl ?_
      refine am_getRk (ki := 12) (pc' := 14) (k := 12) (ci := 7) rfl dX8_stepsOnce_11 rfl fl_X8_25 (by first | assumption | exact ⟨by omega, by omega, rfl⟩) rfl (by assumption) (by omega) ?_
      refine am_iload_n (pc' := 15) dX8_stepsOnce_14 rfl rfl rfl ?_
      refine am_aload_n (pc' := 16) dX8_stepsOnce_15 rfl rfl rfl ?_
      refine am_iload_n (pc' := 17) dX8_stepsOnce_16 rfl rfl rfl ?_
      refine am_callVp (pc' := 20) (as := [_]) (ci := 7)  rfl dX8_stepsOnce_17 rfl ok_X8_becomes ml_X8_139 im_X8_becomes se_X8_becomes rfl (Nat.le_of_ble_eq_true rfl) rfl (Nat.le_of_ble_eq_true rfl) (by first | assumption | exact ⟨by omega, by omega, rfl⟩) (t8_becomes (h := h1) hM hA1 (by rw [g1, g2, g3]; exact hn) (by omega)) ?_
      refine am_iastore (pc' := 21) dX8_stepsOnce_20 rfl (by first | assumption | exact ⟨by omega, by omega, rfl⟩) (by omega) (by omega) ?_
      refine am_iinc (pc' := 24) (ls' := [_, _]) dX8_stepsOnce_21 rfl rfl ⟨by omega, by omega⟩ (Nat.le_of_ble_eq_true rfl) rfl rfl ?_
      refine am_goto (pc' := 2) dX8_stepsOnce_24 rfl ?_
      refine ih _ _ (by omega) (by omega) (by omega) (am_fr_u hf (by simp <;> omega)) (am_upto (fun p p0 p1 => ?_) ?_)
      · rw [am_u_n (by omega)]; exact hr p p0 p1
      · rw [am_u_s, g1, g2, g3, g4]
theorem t8_stepsOnce {ρ h : am_H} (hM : am_LM ρ) (hA : md_A h) (hn : mt_ok (h 38 1) (h 38 2) (h 43)) : am_CT mX8_stepsOnce 0 0 [am_R 38] ρ h (fun r ρ' h' => r = none ∧ ρ' = ρ ∧ am_fr [43, 44] h h' ∧ mt_eq (h 38 1) (h' 43) (mt_st (h 38 1) (h 38 2) (h 39) (h 43))) := by
  obtain ⟨a1, a2⟩ := id hA
  refine am_ct (ls := [some (am_R 38), none]) ok_X8_stepsOnce rfl (fun _ => Nat.le_of_ble_eq_true rfl) (fun _ => rfl) (by intro v hv; simpa using hv) ?_
  refine am_iconst (pc' := 1) dX8_stepsOnce_0 rfl rfl ?_
  refine am_istore_n (pc' := 2) (ls' := [_, _]) dX8_stepsOnce_1 rfl rfl (Nat.le_of_ble_eq_true rfl) rfl rfl ?_
  exact t8_stepsOnce_1 hM hA hn (fun h1 a b => ⟨rfl, rfl, a, b⟩) ((h 38 1).toNat + 1) 0 h (by omega) (by omega) (by omega) am_fr_refl (fun p z0 z1 => by omega)
theorem t8_takesNow_l {ρ h : am_H} {Q : am_Q} (hM : am_LM ρ) (hP : 0 ≤ h 38 1 ∧ h 38 1 ≤ 5) (hq : ∀ h1, am_fr [43] h h1 → (∀ p, 0 ≤ p → p < h 38 1 → h1 43 p = h 40 p) → Q none ρ h1) :
    ∀ (n : Nat) (i : Int) (h1 : am_H), (h 38 1 - i).toNat < n → 0 ≤ i → i ≤ h 38 1 → am_fr [43] h h1 → (∀ p, 0 ≤ p → p < i → h1 43 p = h 40 p) → am_WP mX8_takesNow 0 0 2 [some (am_R 38), some (am_I i)] [] ρ h1 Q := by
  have hn58 := hM.1
  have e1 := am_lm hM 38 11 43 (by decide)
  have e2 := am_lm hM 38 5 40 (by decide)
  have e3 := am_lm hM 43 (-1) 5 (by decide)
  have e4 := am_lm hM 40 (-1) 5 (by decide)
  intro n
  induction n with
  | zero => intro i h1 hk; omega
  | succ n ih =>
    intro i h1 hk h0 h9 hf hr
    have g1 : h1 38 1 = h 38 1 := hf 38 1 (by simp <;> omega)
    have g2 : h1 40 i = h 40 i := hf 40 i (by simp <;> omega)
    refine am_iload_n (pc' := 3) dX8_takesNow_2 rfl rfl rfl ?_
    refine am_aload_n (pc' := 4) dX8_takesNow_3 rfl rfl rfl ?_
    refine am_getIk (ki := 1) (pc' := 7) (k := 1) (ci := 7) rfl dX8_takesNow_4 rfl fl_X8_77 (by first | assumption | exact ⟨by omega, by omega, rfl⟩) rfl ?_
    refine am_icmp_ge (pc' := 10) (tgt := 28) dX8_takesNow_7 rfl rfl (fun c_7 => ?_) (fun c_7 => ?_)
    · refine am_retv dX8_takesNow_28 rfl ?_
      exact hq h1 hf (fun p p0 p1 => hr p p0 (by omega))
    · refine am_aload_n (pc' := 11) dX8_takesNow_10 rfl rfl rfl ?_
      refine am_getRk (ki := 11) (pc' := 14) (k := 11) (ci := 7) rfl dX8_takesNow_11 rfl fl_X8_22 (by first | assumption | exact ⟨by omega, by omega, rfl⟩) rfl (by assumption) (by omega) ?_
      refine am_iload_n (pc' := 15) dX8_takesNow_14 rfl rfl rfl ?_
      refine am_aload_n (pc' := 16) dX8_takesNow_15 rfl rfl rfl ?_
      refine am_getRk (ki := 5) (pc' := 19) (k := 5) (ci := 7) rfl dX8_takesNow_16 rfl fl_X8_13 (by first | assumption | exact ⟨by omega, by omega, rfl⟩) rfl (by assumption) (by omega) ?_
      refine am_iload_n (pc' := 20) dX8_takesNow_19 rfl rfl rfl ?_
      refine am_iaload (pc' := 21) dX8_takesNow_20 rfl (by first | assumption | exact ⟨by omega, by omega, rfl⟩) (by omega) (by omega) ?_
      refine am_iastore (pc' := 22) dX8_takesNow_21 rfl (by first | assumption | exact ⟨by omega, by omega, rfl⟩) (by omega) (by omega) ?_
      refine am_iinc (pc' := 25) (ls' := [_, _]) dX8_takesNow_22 rfl rfl ⟨by omega, by omega⟩ (Nat.le_of_ble_eq_true rfl) rfl rfl ?_
      refine am_goto (pc' := 2) dX8_takesNow_25 rfl ?_
      refine ih _ _ (by omega) (by omega) (by omega) (am_fr_u hf (by simp <;> omega)) (am_upto (fun p p0 p1 => ?_) ?_)
      · rw [am_u_n (by omega)]; exact hr p p0 p1
      · rw [am_u_s]; exact g2
theorem t8_takesNow {ρ h : am_H} (hM : am_LM ρ) (hP : 0 ≤ h 38 1 ∧ h 38 1 ≤ 5) : am_CT mX8_takesNow 0 0 [am_R 38] ρ h (fun r ρ' h' => r = none ∧ ρ' = ρ ∧ am_fr [43] h h' ∧ ∀ p, 0 ≤ p → p < h 38 1 → h' 43 p = h 40 p) := by
  refine am_ct (ls := [some (am_R 38), none]) ok_X8_takesNow rfl (fun _ => Nat.le_of_ble_eq_true rfl) (fun _ => rfl) (by intro v hv; simpa using hv) ?_
  refine am_iconst (pc' := 1) dX8_takesNow_0 rfl rfl ?_
  refine am_istore_n (pc' := 2) (ls' := [_, _]) dX8_takesNow_1 rfl rfl (Nat.le_of_ble_eq_true rfl) rfl rfl ?_
  exact t8_takesNow_l hM hP (fun h1 a b => ⟨rfl, rfl, a, b⟩) ((h 38 1).toNat + 1) 0 h (by omega) (by omega) (by omega) am_fr_refl (fun p z0 z1 => by omega)
