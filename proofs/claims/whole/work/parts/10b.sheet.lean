/-! Sheet: lane 0, size 1, cells 2; Arrays.fill -/
def am_SA (ρ : am_H) (x : Int) : Prop := am_in ρ x 4 ∧ am_in ρ (x + 1) 8 ∧ ρ x 2 = x + 1 ∧ ρ (x + 1) (-1) = 60
def am_SO (h : am_H) (x : Int) : Prop := 0 ≤ h x 1 ∧ h x 1 ≤ 60
def sh_at (h : am_H) (x i : Int) : Int := if 0 ≤ i ∧ i < h x 1 then h (x + 1) i else 0
def sh_sp (s i n : Int) : Prop := 0 ≤ n ∧ 0 ≤ i ∧ i + n ≤ s
def sh_of (lane size i n : Int) : Int := if lane = -1 then 1 else if n < 0 then 4 else if 0 ≤ i ∧ i + n ≤ size then 0 else 3
def sh_as (lane size l i n : Int) : Int := if lane ≠ -1 ∧ lane ≠ l then 2 else sh_of lane size i n
def sh_cut (lane v : Int) : Int := if lane = 0 then am_b8 v else if lane = 1 then am_s16 v else v
theorem t_fill_l {ρ h : am_H} {a v len : Int} {Q : am_Q} (ha : am_in ρ a 8) (hl : ρ a (-1) = len) (hl2 : len ≤ 100000) (hq : ∀ h', am_fr [a] h h' → (∀ k, 0 ≤ k → k < len → h' a k = v) → Q none ρ h') : ∀ (n : Nat) (i : Int) (h1 : am_H), (len - i).toNat < n → 0 ≤ i → (i ≤ len ∨ len < 0) → am_fr [a] h h1 → (∀ k, 0 ≤ k → k < i → h1 a k = v) → am_WP mJ7_fill_53178 0 0 5 [some (am_R a), some (am_I v), some (am_I i), some (am_I len)] [] ρ h1 Q := by
  intro n
  induction n with
  | zero => intro i h1 hn; omega
  | succ n ih =>
    intro i h1 hn h0 hi hf hk
    refine am_iload_n (pc' := 6) dJ7_fill_53178_5 rfl rfl rfl ?_
    refine am_iload_n (pc' := 7) dJ7_fill_53178_6 rfl rfl rfl ?_
    refine am_icmp_ge (pc' := 10) (tgt := 20) dJ7_fill_53178_7 rfl rfl (fun c_7 => ?_) (fun c_7 => ?_)
    · refine am_retv dJ7_fill_53178_20 rfl ?_
      exact hq h1 hf (fun k z0 z1 => hk k z0 (by omega))
    · refine am_aload_n (pc' := 11) dJ7_fill_53178_10 rfl rfl rfl ?_
      refine am_iload_n (pc' := 12) dJ7_fill_53178_11 rfl rfl rfl ?_
      refine am_iload_n (pc' := 13) dJ7_fill_53178_12 rfl rfl rfl ?_
      refine am_iastore (pc' := 14) dJ7_fill_53178_13 rfl (by first | assumption | exact ⟨by omega, by omega, rfl⟩) (by omega) (by omega) ?_
      refine am_iinc (pc' := 17) (ls' := [_, _, _, _]) dJ7_fill_53178_14 rfl rfl ⟨by omega, by omega⟩ (Nat.le_of_ble_eq_true rfl) rfl rfl ?_
      refine am_goto (pc' := 5) dJ7_fill_53178_17 rfl ?_
      exact ih _ _ (by omega) (by omega) (by omega) (fun x k hx => by rw [am_u_n (by simp at hx; omega)]; exact hf x k hx) (am_upto (fun k z0 z1 => by rw [am_u_n (by omega)]; exact hk k z0 z1) (am_u_s _ _ _ _))
theorem t_fill {ρ h : am_H} {a v len : Int} (ha : am_in ρ a 8) (hl : ρ a (-1) = len) (hl2 : len ≤ 100000) (hl0 : 0 ≤ len) : am_CT mJ7_fill_53178 0 0 [am_R a, am_I v] ρ h (fun r ρ' h' => r = none ∧ ρ' = ρ ∧ am_fr [a] h h' ∧ ∀ k, 0 ≤ k → k < len → h' a k = v) := by
  refine am_ct (ls := [some (am_R a), some (am_I v), none, none]) ok_J7_fill_53178 rfl (fun _ => Nat.le_of_ble_eq_true rfl) (fun _ => rfl) (by intro v hv; simpa using hv) ?_
  refine am_iconst (pc' := 1) dJ7_fill_53178_0 rfl rfl ?_
  refine am_istore_n (pc' := 2) (ls' := [_, _, _, _]) dJ7_fill_53178_1 rfl rfl (Nat.le_of_ble_eq_true rfl) rfl rfl ?_
  refine am_aload_n (pc' := 3) dJ7_fill_53178_2 rfl rfl rfl ?_
  refine am_alen (pc' := 4) dJ7_fill_53178_3 rfl (by first | assumption | exact ⟨by omega, by omega, rfl⟩) (by assumption) ?_
  refine am_istore_n (pc' := 5) (ls' := [_, _, _, _]) dJ7_fill_53178_4 rfl rfl (Nat.le_of_ble_eq_true rfl) rfl rfl ?_
  exact t_fill_l ha hl hl2 (fun h' f1 f2 => ⟨rfl, rfl, f1, f2⟩) (len.toNat + 1) 0 h (by omega) (by omega) (by omega) (fun _ _ _ => rfl) (fun k z0 z1 => by omega)
theorem t_hasNothing {ρ h : am_H} {x : Int} (hS : am_SA ρ x) : am_CT mX4_hasNothing 0 0 [am_R x] ρ h (am_P (am_I (if h x 0 = -1 then 1 else 0)) ρ h) := by
  obtain ⟨i1, i2, e1, l1⟩ := hS
  have x0 := i1.1
  refine am_ct (ls := [some (am_R x)]) ok_X4_hasNothing rfl (fun _ => Nat.le_of_ble_eq_true rfl) (fun _ => rfl) (by intro v hv; simpa using hv) ?_
  refine am_aload_n (pc' := 1) dX4_hasNothing_0 rfl rfl rfl ?_
  refine am_getIk (ki := 0) (pc' := 4) (k := 0) (ci := 4) rfl dX4_hasNothing_1 rfl fl_X4_11 (by first | assumption | exact ⟨by omega, by omega, rfl⟩) rfl ?_
  refine am_iconst (pc' := 5) dX4_hasNothing_4 rfl rfl ?_
  refine am_icmp_ne (pc' := 8) (tgt := 12) dX4_hasNothing_5 rfl rfl (fun c_5 => ?_) (fun c_5 => ?_)
  · refine am_iconst (pc' := 13) dX4_hasNothing_12 rfl rfl ?_
    refine am_retz dX4_hasNothing_13 rfl (by first | exact Or.inl rfl | exact Or.inr rfl | omega) ?_
    exact ⟨by simp [*], rfl, rfl⟩
  · refine am_iconst (pc' := 9) dX4_hasNothing_8 rfl rfl ?_
    refine am_goto (pc' := 13) dX4_hasNothing_9 rfl ?_
    refine am_retz dX4_hasNothing_13 rfl (by first | exact Or.inl rfl | exact Or.inr rfl | omega) ?_
    exact ⟨by simp [*], rfl, rfl⟩
theorem t_spans {ρ h : am_H} {x i n : Int} (hS : am_SA ρ x) (hO : am_SO h x) : am_CT mX4_spans 0 0 [am_R x, am_I i, am_I n] ρ h (am_P (am_I (if 0 ≤ n ∧ 0 ≤ i ∧ i + n ≤ h x 1 then 1 else 0)) ρ h) := by
  obtain ⟨i1, i2, e1, l1⟩ := hS
  obtain ⟨o1, o2⟩ := hO
  have x0 := i1.1
  refine am_ct (ls := [some (am_R x), some (am_I i), some (am_I n)]) ok_X4_spans rfl (fun _ => Nat.le_of_ble_eq_true rfl) (fun _ => rfl) (by intro v hv; simpa using hv) ?_
  refine am_iload_n (pc' := 1) dX4_spans_0 rfl rfl rfl ?_
  refine am_if_lt (pc' := 4) (tgt := 30) dX4_spans_1 rfl rfl (fun c_1 => ?_) (fun c_1 => ?_)
  · refine am_iconst (pc' := 31) dX4_spans_30 rfl rfl ?_
    refine am_retz dX4_spans_31 rfl (by first | exact Or.inl rfl | exact Or.inr rfl | omega) ?_
    exact ⟨by first | rw [if_pos (by omega)] | rw [if_neg (by omega)], rfl, rfl⟩
  · refine am_iload_n (pc' := 5) dX4_spans_4 rfl rfl rfl ?_
    refine am_if_lt (pc' := 8) (tgt := 30) dX4_spans_5 rfl rfl (fun c_5 => ?_) (fun c_5 => ?_)
    · refine am_iconst (pc' := 31) dX4_spans_30 rfl rfl ?_
      refine am_retz dX4_spans_31 rfl (by first | exact Or.inl rfl | exact Or.inr rfl | omega) ?_
      exact ⟨by first | rw [if_pos (by omega)] | rw [if_neg (by omega)], rfl, rfl⟩
    · refine am_iload_n (pc' := 9) dX4_spans_8 rfl rfl rfl ?_
      refine am_aload_n (pc' := 10) dX4_spans_9 rfl rfl rfl ?_
      refine am_getIk (ki := 1) (pc' := 13) (k := 1) (ci := 4) rfl dX4_spans_10 rfl fl_X4_15 (by first | assumption | exact ⟨by omega, by omega, rfl⟩) rfl ?_
      refine am_icmp_gt (pc' := 16) (tgt := 30) dX4_spans_13 rfl rfl (fun c_13 => ?_) (fun c_13 => ?_)
      · refine am_iconst (pc' := 31) dX4_spans_30 rfl rfl ?_
        refine am_retz dX4_spans_31 rfl (by first | exact Or.inl rfl | exact Or.inr rfl | omega) ?_
        exact ⟨by first | rw [if_pos (by omega)] | rw [if_neg (by omega)], rfl, rfl⟩
      · refine am_iload_n (pc' := 17) dX4_spans_16 rfl rfl rfl ?_
        refine am_aload_n (pc' := 18) dX4_spans_17 rfl rfl rfl ?_
        refine am_getIk (ki := 1) (pc' := 21) (k := 1) (ci := 4) rfl dX4_spans_18 rfl fl_X4_15 (by first | assumption | exact ⟨by omega, by omega, rfl⟩) rfl ?_
        refine am_iload_n (pc' := 22) dX4_spans_21 rfl rfl rfl ?_
        refine am_isub (pc' := 23) dX4_spans_22 rfl ⟨by omega, by omega⟩ ?_
        refine am_icmp_gt (pc' := 26) (tgt := 30) dX4_spans_23 rfl rfl (fun c_23 => ?_) (fun c_23 => ?_)
        · refine am_iconst (pc' := 31) dX4_spans_30 rfl rfl ?_
          refine am_retz dX4_spans_31 rfl (by first | exact Or.inl rfl | exact Or.inr rfl | omega) ?_
          exact ⟨by first | rw [if_pos (by omega)] | rw [if_neg (by omega)], rfl, rfl⟩
        · refine am_iconst (pc' := 27) dX4_spans_26 rfl rfl ?_
          refine am_goto (pc' := 31) dX4_spans_27 rfl ?_
          refine am_retz dX4_spans_31 rfl (by first | exact Or.inl rfl | exact Or.inr rfl | omega) ?_
          exact ⟨by first | rw [if_pos (by omega)] | rw [if_neg (by omega)], rfl, rfl⟩
theorem t_at {ρ h : am_H} {x i : Int} (hS : am_SA ρ x) (hO : am_SO h x) : am_CT mX4_at 0 0 [am_R x, am_I i] ρ h (am_P (am_I (sh_at h x i)) ρ h) := by
  obtain ⟨i1, i2, e1, l1⟩ := hS
  obtain ⟨o1, o2⟩ := hO
  have x0 := i1.1
  unfold sh_at
  refine am_ct (ls := [some (am_R x), some (am_I i)]) ok_X4_at rfl (fun _ => Nat.le_of_ble_eq_true rfl) (fun _ => rfl) (by intro v hv; simpa using hv) ?_
  refine am_iload_n (pc' := 1) dX4_at_0 rfl rfl rfl ?_
  refine am_if_lt (pc' := 4) (tgt := 21) dX4_at_1 rfl rfl (fun c_1 => ?_) (fun c_1 => ?_)
  · refine am_iconst (pc' := 22) dX4_at_21 rfl rfl ?_
    refine am_reti dX4_at_22 rfl ?_
    exact ⟨by first | rw [if_pos (by omega)] | rw [if_neg (by omega)], rfl, rfl⟩
  · refine am_iload_n (pc' := 5) dX4_at_4 rfl rfl rfl ?_
    refine am_aload_n (pc' := 6) dX4_at_5 rfl rfl rfl ?_
    refine am_getIk (ki := 1) (pc' := 9) (k := 1) (ci := 4) rfl dX4_at_6 rfl fl_X4_15 (by first | assumption | exact ⟨by omega, by omega, rfl⟩) rfl ?_
    refine am_icmp_ge (pc' := 12) (tgt := 21) dX4_at_9 rfl rfl (fun c_9 => ?_) (fun c_9 => ?_)
    · refine am_iconst (pc' := 22) dX4_at_21 rfl rfl ?_
      refine am_reti dX4_at_22 rfl ?_
      exact ⟨by first | rw [if_pos (by omega)] | rw [if_neg (by omega)], rfl, rfl⟩
    · refine am_aload_n (pc' := 13) dX4_at_12 rfl rfl rfl ?_
      refine am_getRk (ki := 2) (pc' := 16) (k := 2) (ci := 4) rfl dX4_at_13 rfl fl_X4_18 (by first | assumption | exact ⟨by omega, by omega, rfl⟩) rfl (by assumption) (by omega) ?_
      refine am_iload_n (pc' := 17) dX4_at_16 rfl rfl rfl ?_
      refine am_iaload (pc' := 18) dX4_at_17 rfl (by first | assumption | exact ⟨by omega, by omega, rfl⟩) (by omega) (by omega) ?_
      refine am_goto (pc' := 22) dX4_at_18 rfl ?_
      refine am_reti dX4_at_22 rfl ?_
      exact ⟨by first | rw [if_pos (by omega)] | rw [if_neg (by omega)], rfl, rfl⟩
theorem t_faultOf {ρ h : am_H} {x i n : Int} (hS : am_SA ρ x) (hO : am_SO h x) : am_CT mX4_faultOf 0 0 [am_R x, am_I i, am_I n] ρ h (am_P (am_I (sh_of (h x 0) (h x 1) i n)) ρ h) := by
  obtain ⟨i1, i2, e1, l1⟩ := id hS
  have x0 := i1.1
  unfold sh_of
  refine am_ct (ls := [some (am_R x), some (am_I i), some (am_I n)]) ok_X4_faultOf rfl (fun _ => Nat.le_of_ble_eq_true rfl) (fun _ => rfl) (by intro v hv; simpa using hv) ?_
  refine am_aload_n (pc' := 1) dX4_faultOf_0 rfl rfl rfl ?_
  refine am_callVp (pc' := 4) (as := []) (ci := 4)  rfl dX4_faultOf_1 rfl ok_X4_hasNothing ml_X4_28 im_X4_hasNothing se_X4_hasNothing rfl (Nat.le_of_ble_eq_true rfl) rfl (Nat.le_of_ble_eq_true rfl) (by first | assumption | exact ⟨by omega, by omega, rfl⟩) (t_hasNothing hS) ?_
  refine am_if_eq (pc' := 7) (tgt := 9) dX4_faultOf_4 rfl rfl (fun c_4 => ?_) (fun c_4 => ?_)
  · simp only [am_z0, am_z1, ne_eq] at c_4
    refine am_iload_n (pc' := 10) dX4_faultOf_9 rfl rfl rfl ?_
    refine am_if_ge (pc' := 13) (tgt := 15) dX4_faultOf_10 rfl rfl (fun c_10 => ?_) (fun c_10 => ?_)
    · refine am_aload_n (pc' := 16) dX4_faultOf_15 rfl rfl rfl ?_
      refine am_iload_n (pc' := 17) dX4_faultOf_16 rfl rfl rfl ?_
      refine am_iload_n (pc' := 18) dX4_faultOf_17 rfl rfl rfl ?_
      refine am_callVp (pc' := 21) (as := [_, _]) (ci := 4)  rfl dX4_faultOf_18 rfl ok_X4_spans ml_X4_36 im_X4_spans se_X4_spans rfl (Nat.le_of_ble_eq_true rfl) rfl (Nat.le_of_ble_eq_true rfl) (by first | assumption | exact ⟨by omega, by omega, rfl⟩) (t_spans hS hO) ?_
      refine am_if_eq (pc' := 24) (tgt := 28) dX4_faultOf_21 rfl rfl (fun c_21 => ?_) (fun c_21 => ?_)
      · simp only [am_z0, am_z1, ne_eq] at c_21
        refine am_iconst (pc' := 29) dX4_faultOf_28 rfl rfl ?_
        refine am_reti dX4_faultOf_29 rfl ?_
        exact ⟨by rw [if_neg (by omega), if_neg (by omega)]; first | rw [if_pos (by omega)] | rw [if_neg (by omega)], rfl, rfl⟩
      · simp only [am_z0, am_z1, ne_eq] at c_21
        refine am_iconst (pc' := 25) dX4_faultOf_24 rfl rfl ?_
        refine am_goto (pc' := 29) dX4_faultOf_25 rfl ?_
        refine am_reti dX4_faultOf_29 rfl ?_
        exact ⟨by rw [if_neg (by omega), if_neg (by omega)]; first | rw [if_pos (by omega)] | rw [if_neg (by omega)], rfl, rfl⟩
    · refine am_iconst (pc' := 14) dX4_faultOf_13 rfl rfl ?_
      refine am_reti dX4_faultOf_14 rfl ?_
      exact ⟨by rw [if_neg (by omega), if_pos (by omega)], rfl, rfl⟩
  · simp only [am_z0, am_z1, ne_eq] at c_4
    refine am_iconst (pc' := 8) dX4_faultOf_7 rfl rfl ?_
    refine am_reti dX4_faultOf_8 rfl ?_
    exact ⟨by rw [if_pos (by omega)], rfl, rfl⟩
theorem t_faultAs {ρ h : am_H} {x l i n : Int} (hS : am_SA ρ x) (hO : am_SO h x) : am_CT mX4_faultAs 0 0 [am_R x, am_I l, am_I i, am_I n] ρ h (am_P (am_I (sh_as (h x 0) (h x 1) l i n)) ρ h) := by
  obtain ⟨i1, i2, e1, l1⟩ := id hS
  have x0 := i1.1
  unfold sh_as
  refine am_ct (ls := [some (am_R x), some (am_I l), some (am_I i), some (am_I n)]) ok_X4_faultAs rfl (fun _ => Nat.le_of_ble_eq_true rfl) (fun _ => rfl) (by intro v hv; simpa using hv) ?_
  refine am_aload_n (pc' := 1) dX4_faultAs_0 rfl rfl rfl ?_
  refine am_callVp (pc' := 4) (as := []) (ci := 4)  rfl dX4_faultAs_1 rfl ok_X4_hasNothing ml_X4_28 im_X4_hasNothing se_X4_hasNothing rfl (Nat.le_of_ble_eq_true rfl) rfl (Nat.le_of_ble_eq_true rfl) (by first | assumption | exact ⟨by omega, by omega, rfl⟩) (t_hasNothing hS) ?_
  refine am_if_ne (pc' := 7) (tgt := 19) dX4_faultAs_4 rfl rfl (fun c_4 => ?_) (fun c_4 => ?_)
  · simp only [am_z0, am_z1, ne_eq] at c_4
    refine am_aload_n (pc' := 20) dX4_faultAs_19 rfl rfl rfl ?_
    refine am_iload_n (pc' := 21) dX4_faultAs_20 rfl rfl rfl ?_
    refine am_iload_n (pc' := 22) dX4_faultAs_21 rfl rfl rfl ?_
    refine am_callVp (pc' := 25) (as := [_, _]) (ci := 4)  rfl dX4_faultAs_22 rfl ok_X4_faultOf ml_X4_32 im_X4_faultOf se_X4_faultOf rfl (Nat.le_of_ble_eq_true rfl) rfl (Nat.le_of_ble_eq_true rfl) (by first | assumption | exact ⟨by omega, by omega, rfl⟩) (t_faultOf hS hO) ?_
    refine am_reti dX4_faultAs_25 rfl ?_
    exact ⟨by first | rw [if_pos (by omega)] | rw [if_neg (by omega)], rfl, rfl⟩
  · simp only [am_z0, am_z1, ne_eq] at c_4
    refine am_aload_n (pc' := 8) dX4_faultAs_7 rfl rfl rfl ?_
    refine am_getIk (ki := 0) (pc' := 11) (k := 0) (ci := 4) rfl dX4_faultAs_8 rfl fl_X4_11 (by first | assumption | exact ⟨by omega, by omega, rfl⟩) rfl ?_
    refine am_iload_n (pc' := 12) dX4_faultAs_11 rfl rfl rfl ?_
    refine am_icmp_eq (pc' := 15) (tgt := 19) dX4_faultAs_12 rfl rfl (fun c_12 => ?_) (fun c_12 => ?_)
    · refine am_aload_n (pc' := 20) dX4_faultAs_19 rfl rfl rfl ?_
      refine am_iload_n (pc' := 21) dX4_faultAs_20 rfl rfl rfl ?_
      refine am_iload_n (pc' := 22) dX4_faultAs_21 rfl rfl rfl ?_
      refine am_callVp (pc' := 25) (as := [_, _]) (ci := 4)  rfl dX4_faultAs_22 rfl ok_X4_faultOf ml_X4_32 im_X4_faultOf se_X4_faultOf rfl (Nat.le_of_ble_eq_true rfl) rfl (Nat.le_of_ble_eq_true rfl) (by first | assumption | exact ⟨by omega, by omega, rfl⟩) (t_faultOf hS hO) ?_
      refine am_reti dX4_faultAs_25 rfl ?_
      exact ⟨by first | rw [if_pos (by omega)] | rw [if_neg (by omega)], rfl, rfl⟩
    · refine am_iconst (pc' := 16) dX4_faultAs_15 rfl rfl ?_
      refine am_goto (pc' := 25) dX4_faultAs_16 rfl ?_
      refine am_reti dX4_faultAs_25 rfl ?_
      exact ⟨by first | rw [if_pos (by omega)] | rw [if_neg (by omega)], rfl, rfl⟩
theorem t_faultOfCopy {ρ h : am_H} {x y i j n : Int} (hS : am_SA ρ x) (hO : am_SO h x) (hS2 : am_SA ρ y) (hO2 : am_SO h y) : am_CT mX4_faultOfCopy 0 0 [am_R x, am_I i, am_R y, am_I j, am_I n] ρ h (am_P (am_I (if h x 0 = -1 ∨ h y 0 = -1 then 1 else if h x 0 ≠ h y 0 then 2 else if (0 ≤ n ∧ 0 ≤ i ∧ i + n ≤ h x 1) ∧ (0 ≤ n ∧ 0 ≤ j ∧ j + n ≤ h y 1) then 0 else 3)) ρ h) := by
  obtain ⟨i1, i2, e1, l1⟩ := id hS
  obtain ⟨j1, j2, f1, m1⟩ := id hS2
  have x0 := i1.1
  have y0 := j1.1
  refine am_ct (ls := [some (am_R x), some (am_I i), some (am_R y), some (am_I j), some (am_I n)]) ok_X4_faultOfCopy rfl (fun _ => Nat.le_of_ble_eq_true rfl) (fun _ => rfl) (by intro v hv; simpa using hv) ?_
  refine am_aload_n (pc' := 1) dX4_faultOfCopy_0 rfl rfl rfl ?_
  refine am_callVp (pc' := 4) (as := []) (ci := 4)  rfl dX4_faultOfCopy_1 rfl ok_X4_hasNothing ml_X4_28 im_X4_hasNothing se_X4_hasNothing rfl (Nat.le_of_ble_eq_true rfl) rfl (Nat.le_of_ble_eq_true rfl) (by first | assumption | exact ⟨by omega, by omega, rfl⟩) (t_hasNothing hS) ?_
  refine am_if_ne (pc' := 7) (tgt := 14) dX4_faultOfCopy_4 rfl rfl (fun c_4 => ?_) (fun c_4 => ?_)
  · simp only [am_z0, am_z1, ne_eq] at c_4
    refine am_iconst (pc' := 15) dX4_faultOfCopy_14 rfl rfl ?_
    refine am_reti dX4_faultOfCopy_15 rfl ?_
    exact ⟨by rw [if_pos (by omega)], rfl, rfl⟩
  · simp only [am_z0, am_z1, ne_eq] at c_4
    refine am_aload_n (pc' := 8) dX4_faultOfCopy_7 rfl rfl rfl ?_
    refine am_callVp (pc' := 11) (as := []) (ci := 4)  rfl dX4_faultOfCopy_8 rfl ok_X4_hasNothing ml_X4_28 im_X4_hasNothing se_X4_hasNothing rfl (Nat.le_of_ble_eq_true rfl) rfl (Nat.le_of_ble_eq_true rfl) (by first | assumption | exact ⟨by omega, by omega, rfl⟩) (t_hasNothing hS2) ?_
    refine am_if_eq (pc' := 14) (tgt := 16) dX4_faultOfCopy_11 rfl rfl (fun c_11 => ?_) (fun c_11 => ?_)
    · simp only [am_z0, am_z1, ne_eq] at c_11
      refine am_aload_n (pc' := 17) dX4_faultOfCopy_16 rfl rfl rfl ?_
      refine am_getIk (ki := 0) (pc' := 20) (k := 0) (ci := 4) rfl dX4_faultOfCopy_17 rfl fl_X4_11 (by first | assumption | exact ⟨by omega, by omega, rfl⟩) rfl ?_
      refine am_aload_n (pc' := 21) dX4_faultOfCopy_20 rfl rfl rfl ?_
      refine am_getIk (ki := 0) (pc' := 24) (k := 0) (ci := 4) rfl dX4_faultOfCopy_21 rfl fl_X4_11 (by first | assumption | exact ⟨by omega, by omega, rfl⟩) rfl ?_
      refine am_icmp_eq (pc' := 27) (tgt := 29) dX4_faultOfCopy_24 rfl rfl (fun c_24 => ?_) (fun c_24 => ?_)
      · refine am_aload_n (pc' := 30) dX4_faultOfCopy_29 rfl rfl rfl ?_
        refine am_iload_n (pc' := 31) dX4_faultOfCopy_30 rfl rfl rfl ?_
        refine am_iload (pc' := 33) dX4_faultOfCopy_31 rfl rfl ?_
        refine am_callVp (pc' := 36) (as := [_, _]) (ci := 4)  rfl dX4_faultOfCopy_33 rfl ok_X4_spans ml_X4_36 im_X4_spans se_X4_spans rfl (Nat.le_of_ble_eq_true rfl) rfl (Nat.le_of_ble_eq_true rfl) (by first | assumption | exact ⟨by omega, by omega, rfl⟩) (t_spans hS hO) ?_
        refine am_if_eq (pc' := 39) (tgt := 53) dX4_faultOfCopy_36 rfl rfl (fun c_36 => ?_) (fun c_36 => ?_)
        · simp only [am_z0, am_z1, ne_eq] at c_36
          refine am_iconst (pc' := 54) dX4_faultOfCopy_53 rfl rfl ?_
          refine am_reti dX4_faultOfCopy_54 rfl ?_
          exact ⟨by rw [if_neg (by omega), if_neg (by omega)]; first | rw [if_pos (by omega)] | rw [if_neg (by omega)], rfl, rfl⟩
        · simp only [am_z0, am_z1, ne_eq] at c_36
          refine am_aload_n (pc' := 40) dX4_faultOfCopy_39 rfl rfl rfl ?_
          refine am_iload_n (pc' := 41) dX4_faultOfCopy_40 rfl rfl rfl ?_
          refine am_iload (pc' := 43) dX4_faultOfCopy_41 rfl rfl ?_
          refine am_callVp (pc' := 46) (as := [_, _]) (ci := 4)  rfl dX4_faultOfCopy_43 rfl ok_X4_spans ml_X4_36 im_X4_spans se_X4_spans rfl (Nat.le_of_ble_eq_true rfl) rfl (Nat.le_of_ble_eq_true rfl) (by first | assumption | exact ⟨by omega, by omega, rfl⟩) (t_spans hS2 hO2) ?_
          refine am_if_eq (pc' := 49) (tgt := 53) dX4_faultOfCopy_46 rfl rfl (fun c_46 => ?_) (fun c_46 => ?_)
          · simp only [am_z0, am_z1, ne_eq] at c_46
            refine am_iconst (pc' := 54) dX4_faultOfCopy_53 rfl rfl ?_
            refine am_reti dX4_faultOfCopy_54 rfl ?_
            exact ⟨by rw [if_neg (by omega), if_neg (by omega)]; first | rw [if_pos (by omega)] | rw [if_neg (by omega)], rfl, rfl⟩
          · simp only [am_z0, am_z1, ne_eq] at c_46
            refine am_iconst (pc' := 50) dX4_faultOfCopy_49 rfl rfl ?_
            refine am_goto (pc' := 54) dX4_faultOfCopy_50 rfl ?_
            refine am_reti dX4_faultOfCopy_54 rfl ?_
            exact ⟨by rw [if_neg (by omega), if_neg (by omega)]; first | rw [if_pos (by omega)] | rw [if_neg (by omega)], rfl, rfl⟩
      · refine am_iconst (pc' := 28) dX4_faultOfCopy_27 rfl rfl ?_
        refine am_reti dX4_faultOfCopy_28 rfl ?_
        exact ⟨by rw [if_neg (by omega), if_pos (by omega)], rfl, rfl⟩
    · simp only [am_z0, am_z1, ne_eq] at c_11
      refine am_iconst (pc' := 15) dX4_faultOfCopy_14 rfl rfl ?_
      refine am_reti dX4_faultOfCopy_15 rfl ?_
      exact ⟨by rw [if_pos (by omega)], rfl, rfl⟩
theorem t_drop {ρ h : am_H} {x : Int} (hS : am_SA ρ x) : am_CT mX4_drop 0 0 [am_R x] ρ h (fun r ρ' h' => r = none ∧ ρ' = ρ ∧ h' = am_u (am_u h x 0 (-1)) x 1 0) := by
  obtain ⟨i1, i2, e1, l1⟩ := hS
  have x0 := i1.1
  refine am_ct (ls := [some (am_R x)]) ok_X4_drop rfl (fun _ => Nat.le_of_ble_eq_true rfl) (fun _ => rfl) (by intro v hv; simpa using hv) ?_
  refine am_aload_n (pc' := 1) dX4_drop_0 rfl rfl rfl ?_
  refine am_iconst (pc' := 2) dX4_drop_1 rfl rfl ?_
  refine am_putIk (ki := 0) (pc' := 5) (k := 0) (ci := 4) rfl dX4_drop_2 rfl fl_X4_11 (by first | assumption | exact ⟨by omega, by omega, rfl⟩) rfl (fun _ _ _ e => by cases e; rfl) ?_
  refine am_aload_n (pc' := 6) dX4_drop_5 rfl rfl rfl ?_
  refine am_iconst (pc' := 7) dX4_drop_6 rfl rfl ?_
  refine am_putIk (ki := 1) (pc' := 10) (k := 1) (ci := 4) rfl dX4_drop_7 rfl fl_X4_15 (by first | assumption | exact ⟨by omega, by omega, rfl⟩) rfl (fun _ _ _ e => by cases e; rfl) ?_
  refine am_retv dX4_drop_10 rfl ?_
  exact ⟨rfl, rfl, rfl⟩
theorem t_renew {ρ h : am_H} {x l n : Int} (hS : am_SA ρ x) : am_CT mX4_renew 0 0 [am_R x, am_I l, am_I n] ρ h (fun r ρ' h' => r = none ∧ ρ' = ρ ∧ am_fr [x, x + 1] h h' ∧ h' x 0 = l ∧ h' x 1 = n ∧ ∀ k, 0 ≤ k → k < 60 → h' (x + 1) k = 0) := by
  obtain ⟨i1, i2, e1, l1⟩ := hS
  have x0 := i1.1
  refine am_ct (ls := [some (am_R x), some (am_I l), some (am_I n)]) ok_X4_renew rfl (fun _ => Nat.le_of_ble_eq_true rfl) (fun _ => rfl) (by intro v hv; simpa using hv) ?_
  refine am_aload_n (pc' := 1) dX4_renew_0 rfl rfl rfl ?_
  refine am_iload_n (pc' := 2) dX4_renew_1 rfl rfl rfl ?_
  refine am_putIk (ki := 0) (pc' := 5) (k := 0) (ci := 4) rfl dX4_renew_2 rfl fl_X4_11 (by first | assumption | exact ⟨by omega, by omega, rfl⟩) rfl (fun _ _ _ e => by cases e; rfl) ?_
  refine am_aload_n (pc' := 6) dX4_renew_5 rfl rfl rfl ?_
  refine am_iload_n (pc' := 7) dX4_renew_6 rfl rfl rfl ?_
  refine am_putIk (ki := 1) (pc' := 10) (k := 1) (ci := 4) rfl dX4_renew_7 rfl fl_X4_15 (by first | assumption | exact ⟨by omega, by omega, rfl⟩) rfl (fun _ _ _ e => by cases e; rfl) ?_
  refine am_aload_n (pc' := 11) dX4_renew_10 rfl rfl rfl ?_
  refine am_getRk (ki := 2) (pc' := 14) (k := 2) (ci := 4) rfl dX4_renew_11 rfl fl_X4_18 (by first | assumption | exact ⟨by omega, by omega, rfl⟩) rfl (by assumption) (by omega) ?_
  refine am_iconst (pc' := 15) dX4_renew_14 rfl rfl ?_
  refine am_callS0 (pc' := 18) (as := [_, _])  rfl dX4_renew_15 rfl ok_J7_fill_53178 ml_X4_22 sm_J7_fill_53178 (Nat.le_of_ble_eq_true rfl) rfl (Nat.le_of_ble_eq_true rfl) (t_fill i2 l1 (by omega) (by omega)) (fun r_15 ρ_15 h_15 q_15 g_15 e_15 => ?_)
  obtain ⟨rfl, rfl, f1, f2⟩ := q_15
  refine am_retv dX4_renew_18 rfl ?_
  refine ⟨rfl, rfl, fun y k hy => ?_, ?_, ?_, f2⟩
  · simp at hy
    rw [f1 y k (by simp; omega), am_u_n (by omega), am_u_n (by omega)]
  · rw [f1 x 0 (by simp; omega), am_u_n (by omega), am_u_s]
  · rw [f1 x 1 (by simp; omega), am_u_s]
theorem t_cut {ρ h : am_H} {x v : Int} (hS : am_SA ρ x) : am_CT mX4_cut 0 0 [am_R x, am_I v] ρ h (am_P (am_I (sh_cut (h x 0) v)) ρ h) := by
  obtain ⟨i1, i2, e1, l1⟩ := hS
  have x0 := i1.1
  unfold sh_cut
  refine am_ct (ls := [some (am_R x), some (am_I v)]) ok_X4_cut rfl (fun _ => Nat.le_of_ble_eq_true rfl) (fun _ => rfl) (by intro v hv; simpa using hv) ?_
  refine am_aload_n (pc' := 1) dX4_cut_0 rfl rfl rfl ?_
  refine am_getIk (ki := 0) (pc' := 4) (k := 0) (ci := 4) rfl dX4_cut_1 rfl fl_X4_11 (by first | assumption | exact ⟨by omega, by omega, rfl⟩) rfl ?_
  refine am_case (0) (fun c_4_0 => ?_) (fun c_4_0 => ?_)
  · refine am_look (pc' := 32) (off := 28) dX4_cut_4 rfl rfl rfl ?_
    refine am_iload_n (pc' := 33) dX4_cut_32 rfl rfl rfl ?_
    refine am_i2b (pc' := 34) dX4_cut_33 rfl ?_
    refine am_reti dX4_cut_34 rfl ?_
    exact ⟨by rw [if_pos c_4_0], rfl, rfl⟩
  refine am_case (1) (fun c_4_1 => ?_) (fun c_4_1 => ?_)
  · refine am_look (pc' := 35) (off := 31) dX4_cut_4 rfl rfl rfl ?_
    refine am_iload_n (pc' := 36) dX4_cut_35 rfl rfl rfl ?_
    refine am_i2s (pc' := 37) dX4_cut_36 rfl ?_
    refine am_reti dX4_cut_37 rfl ?_
    exact ⟨by rw [if_neg (by omega), if_pos c_4_1], rfl, rfl⟩
  refine am_look (pc' := 38) (off := 34) dX4_cut_4 rfl (by simp [Op.lookupswitch.offset, Ne.symm, c_4_0, c_4_1]) rfl ?_
  refine am_iload_n (pc' := 39) dX4_cut_38 rfl rfl rfl ?_
  refine am_reti dX4_cut_39 rfl ?_
  exact ⟨by rw [if_neg c_4_0, if_neg c_4_1], rfl, rfl⟩
theorem t_change {ρ h : am_H} {x i v : Int} (hS : am_SA ρ x) (hO : am_SO h x) (h0 : 0 ≤ i) (h1 : i < h x 1) : am_CT mX4_change 0 0 [am_R x, am_I i, am_I v] ρ h (fun r ρ' h' => r = none ∧ ρ' = ρ ∧ h' = am_u h (x + 1) i (sh_cut (h x 0) v)) := by
  obtain ⟨i1, i2, e1, l1⟩ := id hS
  obtain ⟨o1, o2⟩ := hO
  have x0 := i1.1
  refine am_ct (ls := [some (am_R x), some (am_I i), some (am_I v)]) ok_X4_change rfl (fun _ => Nat.le_of_ble_eq_true rfl) (fun _ => rfl) (by intro v hv; simpa using hv) ?_
  refine am_iload_n (pc' := 1) dX4_change_0 rfl rfl rfl ?_
  refine am_if_lt (pc' := 4) (tgt := 23) dX4_change_1 rfl rfl (fun c_1 => ?_) (fun c_1 => ?_)
  · refine am_retv dX4_change_23 rfl ?_
    first | exact ⟨rfl, rfl, rfl⟩ | omega
  · refine am_iload_n (pc' := 5) dX4_change_4 rfl rfl rfl ?_
    refine am_aload_n (pc' := 6) dX4_change_5 rfl rfl rfl ?_
    refine am_getIk (ki := 1) (pc' := 9) (k := 1) (ci := 4) rfl dX4_change_6 rfl fl_X4_15 (by first | assumption | exact ⟨by omega, by omega, rfl⟩) rfl ?_
    refine am_icmp_ge (pc' := 12) (tgt := 23) dX4_change_9 rfl rfl (fun c_9 => ?_) (fun c_9 => ?_)
    · refine am_retv dX4_change_23 rfl ?_
      first | exact ⟨rfl, rfl, rfl⟩ | omega
    · refine am_aload_n (pc' := 13) dX4_change_12 rfl rfl rfl ?_
      refine am_getRk (ki := 2) (pc' := 16) (k := 2) (ci := 4) rfl dX4_change_13 rfl fl_X4_18 (by first | assumption | exact ⟨by omega, by omega, rfl⟩) rfl (by assumption) (by omega) ?_
      refine am_iload_n (pc' := 17) dX4_change_16 rfl rfl rfl ?_
      refine am_aload_n (pc' := 18) dX4_change_17 rfl rfl rfl ?_
      refine am_iload_n (pc' := 19) dX4_change_18 rfl rfl rfl ?_
      refine am_callVp (pc' := 22) (as := [_]) (ci := 4)  rfl dX4_change_19 rfl ok_X4_cut ml_X4_40 im_X4_cut se_X4_cut rfl (Nat.le_of_ble_eq_true rfl) rfl (Nat.le_of_ble_eq_true rfl) (by first | assumption | exact ⟨by omega, by omega, rfl⟩) (t_cut hS) ?_
      refine am_iastore (pc' := 23) dX4_change_22 rfl (by first | assumption | exact ⟨by omega, by omega, rfl⟩) (by omega) (by omega) ?_
      refine am_retv dX4_change_23 rfl ?_
      first | exact ⟨rfl, rfl, rfl⟩ | omega
