/-! AllRows: cell 19; probe 0, next 1, comers 2, order 3, root 4, tail 5, ordered 6, count 7, staying 8, barren 9, goingOut 10, rounds 11, longestTail 12, firstOfLongest 13 -/
def am_DA (ρ : am_H) (A L : Int) : Prop := am_in ρ 19 0 ∧ (A = 24 ∨ 58 ≤ A) ∧ A + 4 < ρ 0 0 ∧ (ρ 19 1 = A ∧ ρ 19 2 = A + 1 ∧ ρ 19 3 = A + 2 ∧ ρ 19 4 = A + 3 ∧ ρ 19 5 = A + 4) ∧ (ρ A (-1) = L ∧ ρ (A + 1) (-1) = L ∧ ρ (A + 2) (-1) = L ∧ ρ (A + 3) (-1) = L ∧ ρ (A + 4) (-1) = L) ∧ 0 ≤ L ∧ L ≤ 7776
theorem am_K8 {x : Int} (h : (24 ≤ x ∧ x ≤ 28) ∨ (30 ≤ x ∧ x ≤ 32) ∨ 39 ≤ x) : am_K x = 8 := by
  rcases h with h | h | h
  · rcases (show x = 24 ∨ x = 25 ∨ x = 26 ∨ x = 27 ∨ x = 28 by omega) with rfl | rfl | rfl | rfl | rfl <;> rfl
  · rcases (show x = 30 ∨ x = 31 ∨ x = 32 by omega) with rfl | rfl | rfl <;> rfl
  · unfold am_K
    rw [List.getD_eq_getElem?_getD, List.getElem?_eq_none]
    · rfl
    · show 39 ≤ x.toNat
      omega
theorem am_DAx {ρ : am_H} {A L : Int} (h : am_DA ρ A L) : am_in ρ 19 0 ∧ am_in ρ A 8 ∧ am_in ρ (A + 1) 8 ∧ am_in ρ (A + 2) 8 ∧ am_in ρ (A + 3) 8 ∧ am_in ρ (A + 4) 8 ∧ (ρ 19 1 = A ∧ ρ 19 2 = A + 1 ∧ ρ 19 3 = A + 2 ∧ ρ 19 4 = A + 3 ∧ ρ 19 5 = A + 4) ∧ (ρ A (-1) = L ∧ ρ (A + 1) (-1) = L ∧ ρ (A + 2) (-1) = L ∧ ρ (A + 3) (-1) = L ∧ ρ (A + 4) (-1) = L) ∧ (A = 24 ∨ 58 ≤ A) ∧ 0 ≤ L ∧ L ≤ 7776 := by
  obtain ⟨h1, h2, h3, h4, h5, h6, h7⟩ := h
  exact ⟨h1, ⟨by omega, by omega, am_K8 (by omega)⟩, ⟨by omega, by omega, am_K8 (by omega)⟩, ⟨by omega, by omega, am_K8 (by omega)⟩, ⟨by omega, by omega, am_K8 (by omega)⟩, ⟨by omega, by omega, am_K8 (by omega)⟩, h4, h5, h2, h6, h7⟩
theorem t_isRow {ρ h : am_H} {A L c : Int} (hD : am_DA ρ A L) : am_CT mX0_isRow 0 0 [am_R 19, am_I c] ρ h (am_P (am_I (if 0 ≤ c ∧ c < h 19 7 then 1 else 0)) ρ h) := by
  obtain ⟨k0, k1, k2, k3, k4, k5, ⟨e1, e2, e3, e4, e5⟩, ⟨l1, l2, l3, l4, l5⟩, hA, hL0⟩ := am_DAx hD
  refine am_ct (ls := [some (am_R 19), some (am_I c)]) ok_X0_isRow rfl (fun _ => Nat.le_of_ble_eq_true rfl) (fun _ => rfl) (by intro v hv; simpa using hv) ?_
  refine am_iload_n (pc' := 1) dX0_isRow_0 rfl rfl rfl ?_
  refine am_if_lt (pc' := 4) (tgt := 16) dX0_isRow_1 rfl rfl (fun c_1 => ?_) (fun c_1 => ?_)
  · refine am_iconst (pc' := 17) dX0_isRow_16 rfl rfl ?_
    refine am_retz dX0_isRow_17 rfl (by first | exact Or.inl rfl | exact Or.inr rfl | omega) ?_
    exact ⟨by first | rw [if_pos (by omega)] | rw [if_neg (by omega)], rfl, rfl⟩
  · refine am_iload_n (pc' := 5) dX0_isRow_4 rfl rfl rfl ?_
    refine am_aload_n (pc' := 6) dX0_isRow_5 rfl rfl rfl ?_
    refine am_getIk (ki := 7) (pc' := 9) (k := 7) (ci := 0) rfl dX0_isRow_6 rfl fl_X0_38 (by first | assumption | exact ⟨by omega, by omega, rfl⟩) rfl ?_
    refine am_icmp_ge (pc' := 12) (tgt := 16) dX0_isRow_9 rfl rfl (fun c_9 => ?_) (fun c_9 => ?_)
    · refine am_iconst (pc' := 17) dX0_isRow_16 rfl rfl ?_
      refine am_retz dX0_isRow_17 rfl (by first | exact Or.inl rfl | exact Or.inr rfl | omega) ?_
      exact ⟨by first | rw [if_pos (by omega)] | rw [if_neg (by omega)], rfl, rfl⟩
    · refine am_iconst (pc' := 13) dX0_isRow_12 rfl rfl ?_
      refine am_goto (pc' := 17) dX0_isRow_13 rfl ?_
      refine am_retz dX0_isRow_17 rfl (by first | exact Or.inl rfl | exact Or.inr rfl | omega) ?_
      exact ⟨by first | rw [if_pos (by omega)] | rw [if_neg (by omega)], rfl, rfl⟩
theorem t_nextOf {ρ h : am_H} {A L c : Int} (hD : am_DA ρ A L) (hN : h 19 7 ≤ L) (h0 : 0 ≤ c) (h1 : c < h 19 7) : am_CT mX0_nextOf 0 0 [am_R 19, am_I c] ρ h (am_P (am_I (h A c)) ρ h) := by
  obtain ⟨k0, k1, k2, k3, k4, k5, ⟨e1, e2, e3, e4, e5⟩, ⟨l1, l2, l3, l4, l5⟩, hA, hL0⟩ := am_DAx hD
  refine am_ct (ls := [some (am_R 19), some (am_I c)]) ok_X0_nextOf rfl (fun _ => Nat.le_of_ble_eq_true rfl) (fun _ => rfl) (by intro v hv; simpa using hv) ?_
  refine am_aload_n (pc' := 1) dX0_nextOf_0 rfl rfl rfl ?_
  refine am_iload_n (pc' := 2) dX0_nextOf_1 rfl rfl rfl ?_
  refine am_callVp (pc' := 5) (as := [_]) (ci := 0)  rfl dX0_nextOf_2 rfl ok_X0_isRow ml_X0_104 im_X0_isRow se_X0_isRow rfl (Nat.le_of_ble_eq_true rfl) rfl (Nat.le_of_ble_eq_true rfl) (by first | assumption | exact ⟨by omega, by omega, rfl⟩) (t_isRow hD) ?_
  refine am_if_eq (pc' := 8) (tgt := 17) dX0_nextOf_5 rfl rfl (fun c_5 => ?_) (fun c_5 => ?_)
  · simp only [am_z0, am_z1, ne_eq] at c_5
    refine am_iconst (pc' := 18) dX0_nextOf_17 rfl rfl ?_
    refine am_reti dX0_nextOf_18 rfl ?_
    first | exact ⟨rfl, rfl, rfl⟩ | exact absurd ⟨h0, h1⟩ c_5
  · simp only [am_z0, am_z1, ne_eq] at c_5
    refine am_aload_n (pc' := 9) dX0_nextOf_8 rfl rfl rfl ?_
    refine am_getRk (ki := 1) (pc' := 12) (k := 1) (ci := 0) rfl dX0_nextOf_9 rfl fl_X0_18 (by first | assumption | exact ⟨by omega, by omega, rfl⟩) rfl (by assumption) (by omega) ?_
    refine am_iload_n (pc' := 13) dX0_nextOf_12 rfl rfl rfl ?_
    refine am_iaload (pc' := 14) dX0_nextOf_13 rfl (by first | assumption | exact ⟨by omega, by omega, rfl⟩) (by omega) (by omega) ?_
    refine am_goto (pc' := 18) dX0_nextOf_14 rfl ?_
    refine am_reti dX0_nextOf_18 rfl ?_
    first | exact ⟨rfl, rfl, rfl⟩ | exact absurd ⟨h0, h1⟩ c_5
theorem t_tailOf {ρ h : am_H} {A L c : Int} (hD : am_DA ρ A L) (hN : h 19 7 ≤ L) (h0 : 0 ≤ c) (h1 : c < h 19 7) : am_CT mX0_tailOf 0 0 [am_R 19, am_I c] ρ h (am_P (am_I (h (A + 4) c)) ρ h) := by
  obtain ⟨k0, k1, k2, k3, k4, k5, ⟨e1, e2, e3, e4, e5⟩, ⟨l1, l2, l3, l4, l5⟩, hA, hL0⟩ := am_DAx hD
  refine am_ct (ls := [some (am_R 19), some (am_I c)]) ok_X0_tailOf rfl (fun _ => Nat.le_of_ble_eq_true rfl) (fun _ => rfl) (by intro v hv; simpa using hv) ?_
  refine am_aload_n (pc' := 1) dX0_tailOf_0 rfl rfl rfl ?_
  refine am_iload_n (pc' := 2) dX0_tailOf_1 rfl rfl rfl ?_
  refine am_callVp (pc' := 5) (as := [_]) (ci := 0)  rfl dX0_tailOf_2 rfl ok_X0_isRow ml_X0_104 im_X0_isRow se_X0_isRow rfl (Nat.le_of_ble_eq_true rfl) rfl (Nat.le_of_ble_eq_true rfl) (by first | assumption | exact ⟨by omega, by omega, rfl⟩) (t_isRow hD) ?_
  refine am_if_eq (pc' := 8) (tgt := 17) dX0_tailOf_5 rfl rfl (fun c_5 => ?_) (fun c_5 => ?_)
  · simp only [am_z0, am_z1, ne_eq] at c_5
    refine am_iconst (pc' := 18) dX0_tailOf_17 rfl rfl ?_
    refine am_reti dX0_tailOf_18 rfl ?_
    first | exact ⟨rfl, rfl, rfl⟩ | exact absurd ⟨h0, h1⟩ c_5
  · simp only [am_z0, am_z1, ne_eq] at c_5
    refine am_aload_n (pc' := 9) dX0_tailOf_8 rfl rfl rfl ?_
    refine am_getRk (ki := 5) (pc' := 12) (k := 5) (ci := 0) rfl dX0_tailOf_9 rfl fl_X0_31 (by first | assumption | exact ⟨by omega, by omega, rfl⟩) rfl (by assumption) (by omega) ?_
    refine am_iload_n (pc' := 13) dX0_tailOf_12 rfl rfl rfl ?_
    refine am_iaload (pc' := 14) dX0_tailOf_13 rfl (by first | assumption | exact ⟨by omega, by omega, rfl⟩) (by omega) (by omega) ?_
    refine am_goto (pc' := 18) dX0_tailOf_14 rfl ?_
    refine am_reti dX0_tailOf_18 rfl ?_
    first | exact ⟨rfl, rfl, rfl⟩ | exact absurd ⟨h0, h1⟩ c_5
theorem t_goesOut {ρ h : am_H} {A L c : Int} (hD : am_DA ρ A L) (hN : h 19 7 ≤ L) (h0 : 0 ≤ c) (h1 : c < h 19 7) : am_CT mX0_goesOut 0 0 [am_R 19, am_I c] ρ h (am_P (am_I (if h (A + 3) c = 0 then 1 else 0)) ρ h) := by
  obtain ⟨k0, k1, k2, k3, k4, k5, ⟨e1, e2, e3, e4, e5⟩, ⟨l1, l2, l3, l4, l5⟩, hA, hL0⟩ := am_DAx hD
  refine am_ct (ls := [some (am_R 19), some (am_I c)]) ok_X0_goesOut rfl (fun _ => Nat.le_of_ble_eq_true rfl) (fun _ => rfl) (by intro v hv; simpa using hv) ?_
  refine am_aload_n (pc' := 1) dX0_goesOut_0 rfl rfl rfl ?_
  refine am_iload_n (pc' := 2) dX0_goesOut_1 rfl rfl rfl ?_
  refine am_callVp (pc' := 5) (as := [_]) (ci := 0)  rfl dX0_goesOut_2 rfl ok_X0_isRow ml_X0_104 im_X0_isRow se_X0_isRow rfl (Nat.le_of_ble_eq_true rfl) rfl (Nat.le_of_ble_eq_true rfl) (by first | assumption | exact ⟨by omega, by omega, rfl⟩) (t_isRow hD) ?_
  refine am_if_eq (pc' := 8) (tgt := 21) dX0_goesOut_5 rfl rfl (fun c_5 => ?_) (fun c_5 => ?_)
  · simp only [am_z0, am_z1, ne_eq] at c_5
    refine am_iconst (pc' := 22) dX0_goesOut_21 rfl rfl ?_
    refine am_retz dX0_goesOut_22 rfl (by first | exact Or.inl rfl | exact Or.inr rfl | omega) ?_
    first | exact absurd ⟨h0, h1⟩ c_5 | exact ⟨by first | rw [if_pos (by omega)] | rw [if_neg (by omega)], rfl, rfl⟩
  · simp only [am_z0, am_z1, ne_eq] at c_5
    refine am_aload_n (pc' := 9) dX0_goesOut_8 rfl rfl rfl ?_
    refine am_getRk (ki := 4) (pc' := 12) (k := 4) (ci := 0) rfl dX0_goesOut_9 rfl fl_X0_28 (by first | assumption | exact ⟨by omega, by omega, rfl⟩) rfl (by assumption) (by omega) ?_
    refine am_iload_n (pc' := 13) dX0_goesOut_12 rfl rfl rfl ?_
    refine am_iaload (pc' := 14) dX0_goesOut_13 rfl (by first | assumption | exact ⟨by omega, by omega, rfl⟩) (by omega) (by omega) ?_
    refine am_if_ne (pc' := 17) (tgt := 21) dX0_goesOut_14 rfl rfl (fun c_14 => ?_) (fun c_14 => ?_)
    · refine am_iconst (pc' := 22) dX0_goesOut_21 rfl rfl ?_
      refine am_retz dX0_goesOut_22 rfl (by first | exact Or.inl rfl | exact Or.inr rfl | omega) ?_
      first | exact absurd ⟨h0, h1⟩ c_5 | exact ⟨by first | rw [if_pos (by omega)] | rw [if_neg (by omega)], rfl, rfl⟩
    · refine am_iconst (pc' := 18) dX0_goesOut_17 rfl rfl ?_
      refine am_goto (pc' := 22) dX0_goesOut_18 rfl ?_
      refine am_retz dX0_goesOut_22 rfl (by first | exact Or.inl rfl | exact Or.inr rfl | omega) ?_
      first | exact absurd ⟨h0, h1⟩ c_5 | exact ⟨by first | rw [if_pos (by omega)] | rw [if_neg (by omega)], rfl, rfl⟩
theorem cd_inc {B p : Int} {f g : Int → Int} (h0 : 0 ≤ p) (hl : ∀ q, 0 ≤ q → q < p → g q = f q) (hp : g p = f p + 1) : ∀ (m : Nat), (∀ q, p < q → q ≤ p + m → f q = B - 1 ∧ g q = 0) → mt_cd B g (p + 1 + m).toNat = mt_cd B f (p + 1 + m).toNat + 1
  | 0, _ => by
    rw [show p + 1 + ((0 : Nat) : Int) = p + 1 by omega, mt_cd_next _ _ h0, mt_cd_next _ _ h0, hp, mt_cd_eq (n := p.toNat) (f := g) (g := f) (fun q a b => hl q a (by omega))]
    omega
  | m + 1, hr => by
    have h1 := cd_inc h0 hl hp m (fun q a b => hr q a (by omega))
    have h2 := hr (p + 1 + m) (by omega) (by omega)
    rw [show p + 1 + ((m + 1 : Nat) : Int) = (p + 1 + m) + 1 by omega, mt_cd_next _ _ (by omega), mt_cd_next _ _ (by omega), h1, h2.1, h2.2, Int.add_mul]
    omega
theorem cd_full {B : Int} {f : Int → Int} : ∀ (n : Nat), (∀ q : Int, 0 ≤ q → q < n → f q = B - 1) → mt_cd B f n + 1 = mt_pw B n
  | 0, _ => rfl
  | n + 1, h => by
    have h1 := cd_full n (fun q a b => h q a (by omega))
    have h2 := h n (by omega) (by omega)
    show mt_cd B f n * B + f n + 1 = mt_pw B n * B
    rw [← h1, h2, Int.add_mul]
    omega
theorem t_takeNextRow_l {ρ h : am_H} {r : Int} {Q : am_Q} (hR : am_RA ρ r) (hO : am_RO h r) (hq : ∀ h1, am_fr [r + 2] h h1 → mt_ok (h r 1) (h r 0) (h1 (r + 2)) → (mt_cd (h r 0) (h (r + 2)) (h r 1).toNat + 1 < mt_pw (h r 0) (h r 1).toNat → mt_cd (h r 0) (h1 (r + 2)) (h r 1).toNat = mt_cd (h r 0) (h (r + 2)) (h r 1).toNat + 1) → Q none ρ h1) :
    ∀ (n : Nat) (p : Int) (h1 : am_H), p < n → -1 ≤ p → p < h r 1 → am_fr [r + 2] h h1 → (∀ q, 0 ≤ q → q ≤ p → h1 (r + 2) q = h (r + 2) q) → (∀ q, p < q → q < h r 1 → h (r + 2) q = h r 0 - 1 ∧ h1 (r + 2) q = 0) → am_WP mX3_takeNextRow 0 0 7 [some (am_R r), some (am_I p)] [] ρ h1 Q := by
  obtain ⟨i1, i2, i3, i4, ⟨e1, e2, e3⟩, l1, l2, l3⟩ := id hR
  obtain ⟨o1, o2, o3, o4, o5⟩ := id hO
  have r0 := i1.1
  intro n
  induction n with
  | zero =>
    intro p h1 a b d hf hl hr
    have ep : p = -1 := by omega
    refine am_iload_n (pc' := 8) dX3_takeNextRow_7 rfl rfl rfl ?_
    refine am_if_lt (pc' := 11) (tgt := 50) dX3_takeNextRow_8 rfl rfl (fun c_8 => ?_) (fun c_8 => ?_)
    · refine am_retv dX3_takeNextRow_50 rfl ?_
      refine hq h1 hf (fun q z0 z1 => by rw [(hr q (by omega) z1).2]; omega) (fun z => ?_)
      have := cd_full (B := h r 0) (f := h (r + 2)) (h r 1).toNat (fun q z0 z1 => (hr q (by omega) (by omega)).1)
      omega
    · omega
  | succ n ih =>
    intro p h1 a b d hf hl hr
    have f0 : h1 r 0 = h r 0 := hf r 0 (by simp <;> omega)
    refine am_iload_n (pc' := 8) dX3_takeNextRow_7 rfl rfl rfl ?_
    refine am_if_lt (pc' := 11) (tgt := 50) dX3_takeNextRow_8 rfl rfl (fun c_8 => ?_) (fun c_8 => ?_)
    · refine am_retv dX3_takeNextRow_50 rfl ?_
      refine hq h1 hf (fun q z0 z1 => by rw [(hr q (by omega) z1).2]; omega) (fun z => ?_)
      have := cd_full (B := h r 0) (f := h (r + 2)) (h r 1).toNat (fun q z0 z1 => (hr q (by omega) (by omega)).1)
      omega
    · have hp := o5 p (by omega) d
      have hp1 := hl p (by omega) (by omega)
      refine am_aload_n (pc' := 12) dX3_takeNextRow_11 rfl rfl rfl ?_
      refine am_getRk (ki := 3) (pc' := 15) (k := 3) (ci := 3) rfl dX3_takeNextRow_12 rfl fl_X3_22 (by first | assumption | exact ⟨by omega, by omega, rfl⟩) rfl (by assumption) (by omega) ?_
      refine am_iload_n (pc' := 16) dX3_takeNextRow_15 rfl rfl rfl ?_
      refine am_iaload (pc' := 17) dX3_takeNextRow_16 rfl (by first | assumption | exact ⟨by omega, by omega, rfl⟩) (by omega) (by omega) ?_
      refine am_aload_n (pc' := 18) dX3_takeNextRow_17 rfl rfl rfl ?_
      refine am_getIk (ki := 0) (pc' := 21) (k := 0) (ci := 3) rfl dX3_takeNextRow_18 rfl fl_X3_9 (by first | assumption | exact ⟨by omega, by omega, rfl⟩) rfl ?_
      refine am_iconst (pc' := 22) dX3_takeNextRow_21 rfl rfl ?_
      refine am_isub (pc' := 23) dX3_takeNextRow_22 rfl ⟨by omega, by omega⟩ ?_
      refine am_icmp_ge (pc' := 26) (tgt := 37) dX3_takeNextRow_23 rfl rfl (fun c_23 => ?_) (fun c_23 => ?_)
      · refine am_aload_n (pc' := 38) dX3_takeNextRow_37 rfl rfl rfl ?_
        refine am_getRk (ki := 3) (pc' := 41) (k := 3) (ci := 3) rfl dX3_takeNextRow_38 rfl fl_X3_22 (by first | assumption | exact ⟨by omega, by omega, rfl⟩) rfl (by assumption) (by omega) ?_
        refine am_iload_n (pc' := 42) dX3_takeNextRow_41 rfl rfl rfl ?_
        refine am_iconst (pc' := 43) dX3_takeNextRow_42 rfl rfl ?_
        refine am_iastore (pc' := 44) dX3_takeNextRow_43 rfl (by first | assumption | exact ⟨by omega, by omega, rfl⟩) (by omega) (by omega) ?_
        refine am_iinc (pc' := 47) (ls' := [_, _]) dX3_takeNextRow_44 rfl rfl ⟨by omega, by omega⟩ (Nat.le_of_ble_eq_true rfl) rfl rfl ?_
        refine am_goto (pc' := 7) dX3_takeNextRow_47 rfl ?_
        refine ih _ _ (by omega) (by omega) (by omega) (am_fr_u hf (by simp <;> omega)) (fun q z0 z1 => by rw [am_u_n (by omega)]; exact hl q z0 (by omega)) (fun q z0 z1 => ?_)
        by_cases z : q = p
        · rw [z, am_u_s]; omega
        · rw [am_u_n (by omega)]; exact hr q (by omega) z1
      · refine am_aload_n (pc' := 27) dX3_takeNextRow_26 rfl rfl rfl ?_
        refine am_getRk (ki := 3) (pc' := 30) (k := 3) (ci := 3) rfl dX3_takeNextRow_27 rfl fl_X3_22 (by first | assumption | exact ⟨by omega, by omega, rfl⟩) rfl (by assumption) (by omega) ?_
        refine am_iload_n (pc' := 31) dX3_takeNextRow_30 rfl rfl rfl ?_
        refine am_dup2 (pc' := 32) dX3_takeNextRow_31 rfl ?_
        refine am_iaload (pc' := 33) dX3_takeNextRow_32 rfl (by first | assumption | exact ⟨by omega, by omega, rfl⟩) (by omega) (by omega) ?_
        refine am_iconst (pc' := 34) dX3_takeNextRow_33 rfl rfl ?_
        refine am_iadd (pc' := 35) dX3_takeNextRow_34 rfl ⟨by omega, by omega⟩ ?_
        refine am_iastore (pc' := 36) dX3_takeNextRow_35 rfl (by first | assumption | exact ⟨by omega, by omega, rfl⟩) (by omega) (by omega) ?_
        refine am_retv dX3_takeNextRow_36 rfl ?_
        refine hq _ (am_fr_u hf (by simp <;> omega)) (fun q z0 z1 => ?_) (fun _ => ?_)
        · by_cases z : q = p
          · rw [z, am_u_s]; omega
          · rw [am_u_n (by omega)]
            by_cases y : q < p
            · rw [hl q z0 (by omega)]; exact o5 q z0 z1
            · rw [(hr q (by omega) z1).2]; omega
        · have key := cd_inc (B := h r 0) (p := p) (f := h (r + 2)) (g := am_u h1 (r + 2) p (h1 (r + 2) p + 1) (r + 2)) (by omega) (fun q z0 z1 => by rw [am_u_n (by omega)]; exact hl q z0 (by omega)) (by rw [am_u_s, hp1]) (h r 1 - 1 - p).toNat (fun q z0 z1 => by rw [am_u_n (by omega)]; exact hr q z0 (by omega))
          rw [show p + 1 + (((h r 1 - 1 - p).toNat : Nat) : Int) = h r 1 by omega] at key
          exact key
theorem t_takeNextRow {ρ h : am_H} {r : Int} (hR : am_RA ρ r) (hO : am_RO h r) : am_CT mX3_takeNextRow 0 0 [am_R r] ρ h (fun v ρ' h1 => v = none ∧ ρ' = ρ ∧ am_fr [r + 2] h h1 ∧ mt_ok (h r 1) (h r 0) (h1 (r + 2)) ∧ (mt_cd (h r 0) (h (r + 2)) (h r 1).toNat + 1 < mt_pw (h r 0) (h r 1).toNat → mt_cd (h r 0) (h1 (r + 2)) (h r 1).toNat = mt_cd (h r 0) (h (r + 2)) (h r 1).toNat + 1)) := by
  obtain ⟨i1, i2, i3, i4, ⟨e1, e2, e3⟩, l1, l2, l3⟩ := id hR
  obtain ⟨o1, o2, o3, o4, o5⟩ := id hO
  refine am_ct (ls := [some (am_R r), none]) ok_X3_takeNextRow rfl (fun _ => Nat.le_of_ble_eq_true rfl) (fun _ => rfl) (by intro v hv; simpa using hv) ?_
  refine am_aload_n (pc' := 1) dX3_takeNextRow_0 rfl rfl rfl ?_
  refine am_getIk (ki := 1) (pc' := 4) (k := 1) (ci := 3) rfl dX3_takeNextRow_1 rfl fl_X3_15 (by first | assumption | exact ⟨by omega, by omega, rfl⟩) rfl ?_
  refine am_iconst (pc' := 5) dX3_takeNextRow_4 rfl rfl ?_
  refine am_isub (pc' := 6) dX3_takeNextRow_5 rfl ⟨by omega, by omega⟩ ?_
  refine am_istore_n (pc' := 7) (ls' := [_, _]) dX3_takeNextRow_6 rfl rfl (Nat.le_of_ble_eq_true rfl) rfl rfl ?_
  exact t_takeNextRow_l hR hO (fun h1 a b c => ⟨rfl, rfl, a, b, c⟩) (h r 1).toNat (h r 1 - 1) h (by omega) (by omega) (by omega) am_fr_refl (fun _ _ _ => rfl) (fun q z0 z1 => by omega)
