/-! AllRows: what is asked of it -/
/-- the cells that the questions look at -/
def ar_Q (ρ h : am_H) (A L P B : Int) (kd : Int → Int) : Prop := am_LC ρ ∧ am_DA ρ A L ∧ ar_C h A L P B kd ∧ (2 ≤ P ∧ P ≤ 5) ∧ 2 ≤ B ∧ B ≤ 6
theorem ar_QN {ρ h : am_H} {A L P B : Int} {kd : Int → Int} (hQ : ar_Q ρ h A L P B kd) : 0 < h 19 7 ∧ h 19 7 ≤ 7776 ∧ h 19 7 ≤ L ∧ h 19 7 = mt_pw B P.toNat := by
  obtain ⟨hC, hD, ⟨⟨c1, c2, c3, c4⟩, _⟩, hP, hB⟩ := hQ
  have h1 := mt_pw_pos hB.1 P.toNat
  have h2 := mt_pw_7776 hB.1 hB.2 P.toNat (by omega)
  omega
theorem ar_Qin {ρ h : am_H} {A L P B : Int} {kd : Int → Int} (hQ : ar_Q ρ h A L P B kd) : gr_in (nxt P B kd) (h 19 7) := by
  rw [(ar_QN hQ).2.2.2]
  exact nxt_in hQ.2.2.2.1.1 hQ.2.2.2.2.1
theorem t_numberIn_l {ρ h : am_H} {A L P B c p : Int} {kd : Int → Int} {Q : am_Q} (hQ : ar_Q ρ h A L P B kd) (hc : 0 ≤ c ∧ c ≤ 100000) (hp : 0 ≤ p ∧ p < P) (hq : Q (some (am_I (dg P B c p))) ρ h) :
    ∀ (n : Nat) (q : Int), q - p < n → p ≤ q → q < P → am_WP mX0_numberIn 0 0 26 [some (am_R 19), some (am_I c), some (am_I p), some (am_I (dv B c (P - 1 - q).toNat)), some (am_I q)] [] ρ h Q := by
  obtain ⟨hC, hD, ⟨⟨c1, c2, c3, c4⟩, _⟩, hP, hB⟩ := hQ
  obtain ⟨k0, k1, k2, k3, k4, k5, ⟨e1, e2, e3, e4, e5⟩, ⟨l1, l2, l3, l4, l5⟩, hA, hL0, hL7⟩ := am_DAx hD
  have hn58 := hC.1
  have ep := am_lc hC 19 0 20 (by decide)
  intro n
  induction n with
  | zero => intro q a b; omega
  | succ n ih =>
    intro q a b d
    have hd := dv_nn hB.1 hc.1 (P - 1 - q).toNat
    refine am_iload (pc' := 28) dX0_numberIn_26 rfl rfl ?_
    refine am_iload_n (pc' := 29) dX0_numberIn_28 rfl rfl rfl ?_
    refine am_icmp_le (pc' := 32) (tgt := 48) dX0_numberIn_29 rfl rfl (fun c_29 => ?_) (fun c_29 => ?_)
    · refine am_iload_n (pc' := 49) dX0_numberIn_48 rfl rfl rfl ?_
      refine am_aload_n (pc' := 50) dX0_numberIn_49 rfl rfl rfl ?_
      refine am_getRk (ki := 0) (pc' := 53) (k := 0) (ci := 0) rfl dX0_numberIn_50 rfl fl_X0_12 (by first | assumption | exact ⟨by omega, by omega, rfl⟩) rfl (by assumption) (by omega) ?_
      refine am_getIk (ki := 0) (pc' := 56) (k := 0) (ci := 3) rfl dX0_numberIn_53 rfl fl_X0_70 (by first | assumption | exact ⟨by omega, by omega, rfl⟩) rfl ?_
      rw [c1]
      refine am_irem (pc' := 57) dX0_numberIn_56 rfl (by omega) (by omega) ?_
      refine am_reti dX0_numberIn_57 rfl ?_
      have e9 : q = p := by omega
      subst e9; exact hq
    · refine am_iload_n (pc' := 33) dX0_numberIn_32 rfl rfl rfl ?_
      refine am_aload_n (pc' := 34) dX0_numberIn_33 rfl rfl rfl ?_
      refine am_getRk (ki := 0) (pc' := 37) (k := 0) (ci := 0) rfl dX0_numberIn_34 rfl fl_X0_12 (by first | assumption | exact ⟨by omega, by omega, rfl⟩) rfl (by assumption) (by omega) ?_
      refine am_getIk (ki := 0) (pc' := 40) (k := 0) (ci := 3) rfl dX0_numberIn_37 rfl fl_X0_70 (by first | assumption | exact ⟨by omega, by omega, rfl⟩) rfl ?_
      rw [c1]
      refine am_idiv (pc' := 41) dX0_numberIn_40 rfl (by omega) (by omega) ?_
      refine am_istore_n (pc' := 42) (ls' := [_, _, _, _, _]) dX0_numberIn_41 rfl rfl (Nat.le_of_ble_eq_true rfl) rfl rfl ?_
      refine am_iinc (pc' := 45) (ls' := [_, _, _, _, _]) dX0_numberIn_42 rfl rfl ⟨by omega, by omega⟩ (Nat.le_of_ble_eq_true rfl) rfl rfl ?_
      refine am_goto (pc' := 26) dX0_numberIn_45 rfl ?_
      rw [show dv B c (P - 1 - q).toNat / B = dv B c (P - 1 - (q + -1)).toNat by rw [show (P - 1 - (q + -1)).toNat = (P - 1 - q).toNat + 1 by omega]; rfl]
      exact ih _ (by omega) (by omega) (by omega)
theorem t_numberIn {ρ h : am_H} {A L P B c p : Int} {kd : Int → Int} (hQ : ar_Q ρ h A L P B kd) (hc : 0 ≤ c ∧ c ≤ 100000) (hp : 0 ≤ p ∧ p < P) : am_CT mX0_numberIn 0 0 [am_R 19, am_I c, am_I p] ρ h (am_P (am_I (dg P B c p)) ρ h) := by
  obtain ⟨hC, hD, ⟨⟨c1, c2, c3, c4⟩, _⟩, hP, hB⟩ := id hQ
  obtain ⟨k0, k1, k2, k3, k4, k5, ⟨e1, e2, e3, e4, e5⟩, ⟨l1, l2, l3, l4, l5⟩, hA, hL0, hL7⟩ := am_DAx hD
  have hn58 := hC.1
  have ep := am_lc hC 19 0 20 (by decide)
  refine am_ct (ls := [some (am_R 19), some (am_I c), some (am_I p), none, none]) ok_X0_numberIn rfl (fun _ => Nat.le_of_ble_eq_true rfl) (fun _ => rfl) (by intro v hv; simpa using hv) ?_
  refine am_aload_n (pc' := 1) dX0_numberIn_0 rfl rfl rfl ?_
  refine am_getRk (ki := 0) (pc' := 4) (k := 0) (ci := 0) rfl dX0_numberIn_1 rfl fl_X0_12 (by first | assumption | exact ⟨by omega, by omega, rfl⟩) rfl (by assumption) (by omega) ?_
  refine am_getIk (ki := 0) (pc' := 7) (k := 0) (ci := 3) rfl dX0_numberIn_4 rfl fl_X0_70 (by first | assumption | exact ⟨by omega, by omega, rfl⟩) rfl ?_
  refine am_iconst (pc' := 8) dX0_numberIn_7 rfl rfl ?_
  refine am_icmp_ge (pc' := 11) (tgt := 13) dX0_numberIn_8 rfl rfl (fun c_8 => ?_) (fun c_8 => ?_)
  · refine am_iload_n (pc' := 14) dX0_numberIn_13 rfl rfl rfl ?_
    refine am_istore_n (pc' := 15) (ls' := [_, _, _, _, _]) dX0_numberIn_14 rfl rfl (Nat.le_of_ble_eq_true rfl) rfl rfl ?_
    refine am_aload_n (pc' := 16) dX0_numberIn_15 rfl rfl rfl ?_
    refine am_getRk (ki := 0) (pc' := 19) (k := 0) (ci := 0) rfl dX0_numberIn_16 rfl fl_X0_12 (by first | assumption | exact ⟨by omega, by omega, rfl⟩) rfl (by assumption) (by omega) ?_
    refine am_getIk (ki := 1) (pc' := 22) (k := 1) (ci := 3) rfl dX0_numberIn_19 rfl fl_X0_67 (by first | assumption | exact ⟨by omega, by omega, rfl⟩) rfl ?_
    refine am_iconst (pc' := 23) dX0_numberIn_22 rfl rfl ?_
    refine am_isub (pc' := 24) dX0_numberIn_23 rfl ⟨by omega, by omega⟩ ?_
    refine am_istore (pc' := 26) (ls' := [_, _, _, _, _]) dX0_numberIn_24 rfl (Nat.le_of_ble_eq_true rfl) rfl rfl ?_
    have key := t_numberIn_l (Q := am_P (am_I (dg P B c p)) ρ h) hQ hc hp ⟨rfl, rfl, rfl⟩ P.toNat (P - 1) (by omega) (by omega) (by omega)
    rw [show (P - 1 - (P - 1)).toNat = 0 by omega] at key
    rw [c2]; exact key
  · exfalso; omega
theorem t_comersOf_l {ρ h : am_H} {A L P B c : Int} {kd : Int → Int} {Q : am_Q} (hQ : ar_Q ρ h A L P B kd) (hq : Q (some (am_I (mt_sum (fun d => if nxt P B kd d = c then 1 else 0) (h 19 7).toNat))) ρ h) :
    ∀ (n : Nat) (i m : Int), (h 19 7 - i).toNat < n → 0 ≤ i → i ≤ h 19 7 → m = mt_sum (fun d => if nxt P B kd d = c then 1 else 0) i.toNat → am_WP mX0_comersOf 0 0 4 [some (am_R 19), some (am_I c), some (am_I m), some (am_I i)] [] ρ h Q := by
  have hN := ar_QN hQ
  obtain ⟨hC, hD, ⟨⟨c1, c2, c3, c4⟩, d1, _⟩, hP, hB⟩ := id hQ
  obtain ⟨k0, k1, k2, k3, k4, k5, ⟨e1, e2, e3, e4, e5⟩, ⟨l1, l2, l3, l4, l5⟩, hA, hL0, hL7⟩ := am_DAx hD
  have hn58 := hC.1
  intro n
  induction n with
  | zero => intro i m hk; omega
  | succ n ih =>
    intro i m hk h0 h1 hm
    have hb := cnt_in (nx := nxt P B kd) (c := c) i.toNat
    refine am_iload_n (pc' := 5) dX0_comersOf_4 rfl rfl rfl ?_
    refine am_aload_n (pc' := 6) dX0_comersOf_5 rfl rfl rfl ?_
    refine am_getIk (ki := 7) (pc' := 9) (k := 7) (ci := 0) rfl dX0_comersOf_6 rfl fl_X0_38 (by first | assumption | exact ⟨by omega, by omega, rfl⟩) rfl ?_
    refine am_icmp_ge (pc' := 12) (tgt := 31) dX0_comersOf_9 rfl rfl (fun c_9 => ?_) (fun c_9 => ?_)
    · refine am_iload_n (pc' := 32) dX0_comersOf_31 rfl rfl rfl ?_
      refine am_reti dX0_comersOf_32 rfl ?_
      rw [hm, show i.toNat = (h 19 7).toNat by omega]; exact hq
    · refine am_aload_n (pc' := 13) dX0_comersOf_12 rfl rfl rfl ?_
      refine am_getRk (ki := 1) (pc' := 16) (k := 1) (ci := 0) rfl dX0_comersOf_13 rfl fl_X0_18 (by first | assumption | exact ⟨by omega, by omega, rfl⟩) rfl (by assumption) (by omega) ?_
      refine am_iload_n (pc' := 17) dX0_comersOf_16 rfl rfl rfl ?_
      refine am_iaload (pc' := 18) dX0_comersOf_17 rfl (by first | assumption | exact ⟨by omega, by omega, rfl⟩) (by omega) (by omega) ?_
      rw [d1 i h0 (by omega)]
      refine am_iload_n (pc' := 19) dX0_comersOf_18 rfl rfl rfl ?_
      refine am_icmp_ne (pc' := 22) (tgt := 25) dX0_comersOf_19 rfl rfl (fun c_19 => ?_) (fun c_19 => ?_)
      · refine am_iinc (pc' := 28) (ls' := [_, _, _, _]) dX0_comersOf_25 rfl rfl ⟨by omega, by omega⟩ (Nat.le_of_ble_eq_true rfl) rfl rfl ?_
        refine am_goto (pc' := 4) dX0_comersOf_28 rfl ?_
        exact ih _ _ (by omega) (by omega) (by omega) (by rw [mt_sum_next _ h0, hm]; first | rw [if_pos c_19] | (rw [if_neg c_19]; omega))
      · refine am_iinc (pc' := 25) (ls' := [_, _, _, _]) dX0_comersOf_22 rfl rfl ⟨by omega, by omega⟩ (Nat.le_of_ble_eq_true rfl) rfl rfl ?_
        refine am_iinc (pc' := 28) (ls' := [_, _, _, _]) dX0_comersOf_25 rfl rfl ⟨by omega, by omega⟩ (Nat.le_of_ble_eq_true rfl) rfl rfl ?_
        refine am_goto (pc' := 4) dX0_comersOf_28 rfl ?_
        exact ih _ _ (by omega) (by omega) (by omega) (by rw [mt_sum_next _ h0, hm]; first | rw [if_pos c_19] | (rw [if_neg c_19]; omega))
theorem t_comersOf {ρ h : am_H} {A L P B c : Int} {kd : Int → Int} (hQ : ar_Q ρ h A L P B kd) : am_CT mX0_comersOf 0 0 [am_R 19, am_I c] ρ h (am_P (am_I (mt_sum (fun d => if nxt P B kd d = c then 1 else 0) (h 19 7).toNat)) ρ h) := by
  have hN := ar_QN hQ
  refine am_ct (ls := [some (am_R 19), some (am_I c), none, none]) ok_X0_comersOf rfl (fun _ => Nat.le_of_ble_eq_true rfl) (fun _ => rfl) (by intro v hv; simpa using hv) ?_
  refine am_iconst (pc' := 1) dX0_comersOf_0 rfl rfl ?_
  refine am_istore_n (pc' := 2) (ls' := [_, _, _, _]) dX0_comersOf_1 rfl rfl (Nat.le_of_ble_eq_true rfl) rfl rfl ?_
  refine am_iconst (pc' := 3) dX0_comersOf_2 rfl rfl ?_
  refine am_istore_n (pc' := 4) (ls' := [_, _, _, _]) dX0_comersOf_3 rfl rfl (Nat.le_of_ble_eq_true rfl) rfl rfl ?_
  exact t_comersOf_l hQ ⟨rfl, rfl, rfl⟩ ((h 19 7).toNat + 1) 0 0 (by omega) (by omega) (by omega) rfl
def gr_fc (nx : Int → Int) (N c v : Int) : Prop := (0 ≤ v ∧ v < N ∧ nx v = c ∧ ∀ d, 0 ≤ d → d < v → nx d ≠ c) ∨ (v = -9 ∧ ∀ d, 0 ≤ d → d < N → nx d ≠ c)
theorem gr_fc_uniq {nx : Int → Int} {N c v w : Int} (h1 : gr_fc nx N c v) (h2 : gr_fc nx N c w) : v = w := by
  rcases h1 with ⟨a1, a2, a3, a4⟩ | ⟨a1, a2⟩ <;> rcases h2 with ⟨b1, b2, b3, b4⟩ | ⟨b1, b2⟩
  · rcases Int.lt_trichotomy v w with z | z | z
    · exact absurd a3 (b4 v a1 z)
    · exact z
    · exact absurd b3 (a4 w b1 z)
  · exact absurd a3 (b2 v a1 a2)
  · exact absurd b3 (a2 w b1 b2)
  · omega
theorem t_firstComerOf_l {ρ h : am_H} {A L P B c : Int} {kd : Int → Int} {Q : am_Q} (hQ : ar_Q ρ h A L P B kd) (hq : ∀ v, gr_fc (nxt P B kd) (h 19 7) c v → Q (some (am_I v)) ρ h) :
    ∀ (n : Nat) (i : Int), (h 19 7 - i).toNat < n → 0 ≤ i → i ≤ h 19 7 → (∀ d, 0 ≤ d → d < i → nxt P B kd d ≠ c) → am_WP mX0_firstComerOf 0 0 2 [some (am_R 19), some (am_I c), some (am_I i)] [] ρ h Q := by
  have hN := ar_QN hQ
  obtain ⟨hC, hD, ⟨⟨c1, c2, c3, c4⟩, d1, _⟩, hP, hB⟩ := id hQ
  obtain ⟨k0, k1, k2, k3, k4, k5, ⟨e1, e2, e3, e4, e5⟩, ⟨l1, l2, l3, l4, l5⟩, hA, hL0, hL7⟩ := am_DAx hD
  have hn58 := hC.1
  intro n
  induction n with
  | zero => intro i hk; omega
  | succ n ih =>
    intro i hk h0 h1 hm
    refine am_iload_n (pc' := 3) dX0_firstComerOf_2 rfl rfl rfl ?_
    refine am_aload_n (pc' := 4) dX0_firstComerOf_3 rfl rfl rfl ?_
    refine am_getIk (ki := 7) (pc' := 7) (k := 7) (ci := 0) rfl dX0_firstComerOf_4 rfl fl_X0_38 (by first | assumption | exact ⟨by omega, by omega, rfl⟩) rfl ?_
    refine am_icmp_ge (pc' := 10) (tgt := 28) dX0_firstComerOf_7 rfl rfl (fun c_7 => ?_) (fun c_7 => ?_)
    · refine am_bipush (pc' := 30) dX0_firstComerOf_28 rfl rfl (by decide) ?_
      refine am_reti dX0_firstComerOf_30 rfl ?_
      exact hq _ (Or.inr ⟨rfl, fun d z0 z1 => hm d z0 (by omega)⟩)
    · refine am_aload_n (pc' := 11) dX0_firstComerOf_10 rfl rfl rfl ?_
      refine am_getRk (ki := 1) (pc' := 14) (k := 1) (ci := 0) rfl dX0_firstComerOf_11 rfl fl_X0_18 (by first | assumption | exact ⟨by omega, by omega, rfl⟩) rfl (by assumption) (by omega) ?_
      refine am_iload_n (pc' := 15) dX0_firstComerOf_14 rfl rfl rfl ?_
      refine am_iaload (pc' := 16) dX0_firstComerOf_15 rfl (by first | assumption | exact ⟨by omega, by omega, rfl⟩) (by omega) (by omega) ?_
      rw [d1 i h0 (by omega)]
      refine am_iload_n (pc' := 17) dX0_firstComerOf_16 rfl rfl rfl ?_
      refine am_icmp_ne (pc' := 20) (tgt := 22) dX0_firstComerOf_17 rfl rfl (fun c_17 => ?_) (fun c_17 => ?_)
      · refine am_iinc (pc' := 25) (ls' := [_, _, _]) dX0_firstComerOf_22 rfl rfl ⟨by omega, by omega⟩ (Nat.le_of_ble_eq_true rfl) rfl rfl ?_
        refine am_goto (pc' := 2) dX0_firstComerOf_25 rfl ?_
        exact ih _ (by omega) (by omega) (by omega) (am_upto hm c_17)
      · refine am_iload_n (pc' := 21) dX0_firstComerOf_20 rfl rfl rfl ?_
        refine am_reti dX0_firstComerOf_21 rfl ?_
        exact hq i (Or.inl ⟨h0, by omega, c_17, hm⟩)
theorem t_firstComerOf {ρ h : am_H} {A L P B c : Int} {kd : Int → Int} (hQ : ar_Q ρ h A L P B kd) : am_CT mX0_firstComerOf 0 0 [am_R 19, am_I c] ρ h (fun r ρ' h' => ρ' = ρ ∧ h' = h ∧ ∃ v, r = some (am_I v) ∧ gr_fc (nxt P B kd) (h 19 7) c v) := by
  have hN := ar_QN hQ
  refine am_ct (ls := [some (am_R 19), some (am_I c), none]) ok_X0_firstComerOf rfl (fun _ => Nat.le_of_ble_eq_true rfl) (fun _ => rfl) (by intro v hv; simpa using hv) ?_
  refine am_iconst (pc' := 1) dX0_firstComerOf_0 rfl rfl ?_
  refine am_istore_n (pc' := 2) (ls' := [_, _, _]) dX0_firstComerOf_1 rfl rfl (Nat.le_of_ble_eq_true rfl) rfl rfl ?_
  exact t_firstComerOf_l hQ (fun v z => ⟨rfl, rfl, v, rfl, z⟩) ((h 19 7).toNat + 1) 0 (by omega) (by omega) (by omega) (fun d z0 z1 => by omega)
theorem t_meeting_l {ρ h : am_H} {A L P B a b : Int} {kd : Int → Int} {Q : am_Q} (hQ : ar_Q ρ h A L P B kd) (ha : 0 ≤ a ∧ a < h 19 7) (hb : 0 ≤ b ∧ b < h 19 7) (hq : ∀ v, gr_mt (nxt P B kd) a b v → Q (some (am_I v)) ρ h) :
    ∀ (n : Nat) (s : Int), (h 19 12 + 1 - s).toNat < n → 0 ≤ s → s ≤ h 19 12 + 1 → (∀ j : Nat, (j : Int) < s → gi (nxt P B kd) j a ≠ gi (nxt P B kd) j b) → am_WP mX0_meeting 0 0 8 [some (am_R 19), some (am_I a), some (am_I b), some (am_I (gi (nxt P B kd) s.toNat a)), some (am_I (gi (nxt P B kd) s.toNat b)), some (am_I s)] [] ρ h Q := by
  have hN := ar_QN hQ
  have hin := ar_Qin hQ
  obtain ⟨hC, hD, ⟨⟨c1, c2, c3, c4⟩, d1, d2, d3, d4, d5, d6, d7⟩, hP, hB⟩ := id hQ
  obtain ⟨k0, k1, k2, k3, k4, k5, ⟨e1, e2, e3, e4, e5⟩, ⟨l1, l2, l3, l4, l5⟩, hA, hL0, hL7⟩ := am_DAx hD
  have hn58 := hC.1
  have hm0 := (d2 _ d7.1.1 d7.1.2).1
  have hmlt := gr_tl_lt hin d7.1.1 d7.1.2 hm0
  rw [d7.2.1] at hmlt hm0
  have hm00 := hm0.1
  intro n
  induction n with
  | zero => intro s hk; omega
  | succ n ih =>
    intro s hk h0 h1 hm
    have ga := gi_in hin ha.1 ha.2 s.toNat
    have gb := gi_in hin hb.1 hb.2 s.toNat
    refine am_iload (pc' := 10) dX0_meeting_8 rfl rfl ?_
    refine am_aload_n (pc' := 11) dX0_meeting_10 rfl rfl rfl ?_
    refine am_getIk (ki := 12) (pc' := 14) (k := 12) (ci := 0) rfl dX0_meeting_11 rfl fl_X0_53 (by first | assumption | exact ⟨by omega, by omega, rfl⟩) rfl ?_
    refine am_icmp_gt (pc' := 17) (tgt := 46) dX0_meeting_14 rfl rfl (fun c_14 => ?_) (fun c_14 => ?_)
    · refine am_bipush (pc' := 48) dX0_meeting_46 rfl rfl (by decide) ?_
      refine am_reti dX0_meeting_48 rfl ?_
      have key : ∀ c, 0 ≤ c → c < h 19 7 → onc (nxt P B kd) (gi (nxt P B kd) (h 19 12).toNat c) := fun c z0 z1 => by
        have t1 := (d2 c z0 z1).1
        have t2 := d7.2.2.1 c z0 z1
        have t3 := onc_gi t1.2.1 ((h 19 12).toNat - (h (A + 4) c).toNat)
        have t0 := t1.1
        rw [← gi_add, show (h 19 12).toNat - (h (A + 4) c).toNat + (h (A + 4) c).toNat = (h 19 12).toNat by omega] at t3
        exact t3
      exact hq _ (Or.inr ⟨rfl, gr_apart (key a ha.1 ha.2) (key b hb.1 hb.2) (fun j hj => hm j (by omega))⟩)
    · refine am_iload_n (pc' := 18) dX0_meeting_17 rfl rfl rfl ?_
      refine am_iload (pc' := 20) dX0_meeting_18 rfl rfl ?_
      refine am_icmp_ne (pc' := 23) (tgt := 26) dX0_meeting_20 rfl rfl (fun c_20 => ?_) (fun c_20 => ?_)
      · refine am_aload_n (pc' := 27) dX0_meeting_26 rfl rfl rfl ?_
        refine am_iload_n (pc' := 28) dX0_meeting_27 rfl rfl rfl ?_
        refine am_callVp (pc' := 31) (as := [_]) (ci := 0)  rfl dX0_meeting_28 rfl ok_X0_nextOf ml_X0_115 im_X0_nextOf se_X0_nextOf rfl (Nat.le_of_ble_eq_true rfl) rfl (Nat.le_of_ble_eq_true rfl) (by first | assumption | exact ⟨by omega, by omega, rfl⟩) (t_nextOf hD hN.2.2.1 ga.1 ga.2) ?_
        rw [d1 _ ga.1 ga.2]
        refine am_istore_n (pc' := 32) (ls' := [_, _, _, _, _, _]) dX0_meeting_31 rfl rfl (Nat.le_of_ble_eq_true rfl) rfl rfl ?_
        refine am_aload_n (pc' := 33) dX0_meeting_32 rfl rfl rfl ?_
        refine am_iload (pc' := 35) dX0_meeting_33 rfl rfl ?_
        refine am_callVp (pc' := 38) (as := [_]) (ci := 0)  rfl dX0_meeting_35 rfl ok_X0_nextOf ml_X0_115 im_X0_nextOf se_X0_nextOf rfl (Nat.le_of_ble_eq_true rfl) rfl (Nat.le_of_ble_eq_true rfl) (by first | assumption | exact ⟨by omega, by omega, rfl⟩) (t_nextOf hD hN.2.2.1 gb.1 gb.2) ?_
        rw [d1 _ gb.1 gb.2]
        refine am_istore (pc' := 40) (ls' := [_, _, _, _, _, _]) dX0_meeting_38 rfl (Nat.le_of_ble_eq_true rfl) rfl rfl ?_
        refine am_iinc (pc' := 43) (ls' := [_, _, _, _, _, _]) dX0_meeting_40 rfl rfl ⟨by omega, by omega⟩ (Nat.le_of_ble_eq_true rfl) rfl rfl ?_
        refine am_goto (pc' := 8) dX0_meeting_43 rfl ?_
        rw [show nxt P B kd (gi (nxt P B kd) s.toNat a) = gi (nxt P B kd) (s + 1).toNat a by rw [show (s + 1).toNat = s.toNat + 1 by omega]; rfl, show nxt P B kd (gi (nxt P B kd) s.toNat b) = gi (nxt P B kd) (s + 1).toNat b by rw [show (s + 1).toNat = s.toNat + 1 by omega]; rfl]
        refine ih _ (by omega) (by omega) (by omega) (fun j hj => ?_)
        by_cases z : (j : Int) < s
        · exact hm j z
        · rw [show j = s.toNat by omega]; exact c_20
      · refine am_iload (pc' := 25) dX0_meeting_23 rfl rfl ?_
        refine am_reti dX0_meeting_25 rfl ?_
        exact hq s (Or.inl ⟨h0, c_20, hm⟩)
theorem t_meeting {ρ h : am_H} {A L P B a b : Int} {kd : Int → Int} (hQ : ar_Q ρ h A L P B kd) (ha : 0 ≤ a ∧ a < h 19 7) (hb : 0 ≤ b ∧ b < h 19 7) : am_CT mX0_meeting 0 0 [am_R 19, am_I a, am_I b] ρ h (fun r ρ' h' => ρ' = ρ ∧ h' = h ∧ ∃ v, r = some (am_I v) ∧ gr_mt (nxt P B kd) a b v) := by
  have hN := ar_QN hQ
  have hin := ar_Qin hQ
  obtain ⟨hC, hD, ⟨⟨c1, c2, c3, c4⟩, d1, d2, d3, d4, d5, d6, d7⟩, hP, hB⟩ := id hQ
  have hm0 := (d2 _ d7.1.1 d7.1.2).1
  rw [d7.2.1] at hm0
  have hm00 := hm0.1
  refine am_ct (ls := [some (am_R 19), some (am_I a), some (am_I b), none, none, none]) ok_X0_meeting rfl (fun _ => Nat.le_of_ble_eq_true rfl) (fun _ => rfl) (by intro v hv; simpa using hv) ?_
  refine am_iload_n (pc' := 1) dX0_meeting_0 rfl rfl rfl ?_
  refine am_istore_n (pc' := 2) (ls' := [_, _, _, _, _, _]) dX0_meeting_1 rfl rfl (Nat.le_of_ble_eq_true rfl) rfl rfl ?_
  refine am_iload_n (pc' := 3) dX0_meeting_2 rfl rfl rfl ?_
  refine am_istore (pc' := 5) (ls' := [_, _, _, _, _, _]) dX0_meeting_3 rfl (Nat.le_of_ble_eq_true rfl) rfl rfl ?_
  refine am_iconst (pc' := 6) dX0_meeting_5 rfl rfl ?_
  refine am_istore (pc' := 8) (ls' := [_, _, _, _, _, _]) dX0_meeting_6 rfl (Nat.le_of_ble_eq_true rfl) rfl rfl ?_
  exact t_meeting_l hQ ha hb (fun v z => ⟨rfl, rfl, v, rfl, z⟩) ((h 19 12 + 1).toNat + 1) 0 (by omega) (by omega) (by omega) (fun j hj => by omega)
theorem t_roundOf_l {ρ h : am_H} {A L P B c f : Int} {kd : Int → Int} {Q : am_Q} (hQ : ar_Q ρ h A L P B kd) (hf : 0 ≤ f ∧ f < h 19 7) (ho : onc (nxt P B kd) f) (hq : ∀ v, v ≤ h 19 7 → gr_per (nxt P B kd) f v → Q (some (am_I v)) ρ h) :
    ∀ (n : Nat) (s : Int), (h 19 7 - s).toNat < n → 1 ≤ s → s ≤ h 19 7 → (∀ j : Nat, 0 < j → (j : Int) < s → gi (nxt P B kd) j f ≠ f) → am_WP mX0_roundOf 0 0 28 [some (am_R 19), some (am_I c), some (am_I f), some (am_I s), some (am_I (gi (nxt P B kd) s.toNat f))] [] ρ h Q := by
  have hN := ar_QN hQ
  have hin := ar_Qin hQ
  obtain ⟨hC, hD, ⟨⟨c1, c2, c3, c4⟩, d1, d2, d3, d4, d5, d6, d7⟩, hP, hB⟩ := id hQ
  obtain ⟨k0, k1, k2, k3, k4, k5, ⟨e1, e2, e3, e4, e5⟩, ⟨l1, l2, l3, l4, l5⟩, hA, hL0, hL7⟩ := am_DAx hD
  have hn58 := hC.1
  intro n
  induction n with
  | zero => intro s hk; omega
  | succ n ih =>
    intro s hk h0 h1 hm
    have ga := gi_in hin hf.1 hf.2 s.toNat
    refine am_iload (pc' := 30) dX0_roundOf_28 rfl rfl ?_
    refine am_iload_n (pc' := 31) dX0_roundOf_30 rfl rfl rfl ?_
    refine am_icmp_eq (pc' := 34) (tgt := 56) dX0_roundOf_31 rfl rfl (fun c_31 => ?_) (fun c_31 => ?_)
    · refine am_iload_n (pc' := 57) dX0_roundOf_56 rfl rfl rfl ?_
      refine am_reti dX0_roundOf_57 rfl ?_
      exact hq s h1 ⟨by omega, c_31, fun j j0 j1 => hm j j0 j1⟩
    · refine am_iload_n (pc' := 35) dX0_roundOf_34 rfl rfl rfl ?_
      refine am_aload_n (pc' := 36) dX0_roundOf_35 rfl rfl rfl ?_
      refine am_getIk (ki := 7) (pc' := 39) (k := 7) (ci := 0) rfl dX0_roundOf_36 rfl fl_X0_38 (by first | assumption | exact ⟨by omega, by omega, rfl⟩) rfl ?_
      refine am_icmp_ge (pc' := 42) (tgt := 56) dX0_roundOf_39 rfl rfl (fun c_39 => ?_) (fun c_39 => ?_)
      · exfalso
        obtain ⟨t, t0, t1, t2⟩ := onc_le hin hf.1 hf.2 ho
        by_cases z : (t : Int) < s
        · exact hm t t0 z t2
        · rw [show t = s.toNat by omega] at t2; exact c_31 t2
      · refine am_iinc (pc' := 45) (ls' := [_, _, _, _, _]) dX0_roundOf_42 rfl rfl ⟨by omega, by omega⟩ (Nat.le_of_ble_eq_true rfl) rfl rfl ?_
        refine am_aload_n (pc' := 46) dX0_roundOf_45 rfl rfl rfl ?_
        refine am_iload (pc' := 48) dX0_roundOf_46 rfl rfl ?_
        refine am_callVp (pc' := 51) (as := [_]) (ci := 0)  rfl dX0_roundOf_48 rfl ok_X0_nextOf ml_X0_115 im_X0_nextOf se_X0_nextOf rfl (Nat.le_of_ble_eq_true rfl) rfl (Nat.le_of_ble_eq_true rfl) (by first | assumption | exact ⟨by omega, by omega, rfl⟩) (t_nextOf hD hN.2.2.1 ga.1 ga.2) ?_
        rw [d1 _ ga.1 ga.2]
        refine am_istore (pc' := 53) (ls' := [_, _, _, _, _]) dX0_roundOf_51 rfl (Nat.le_of_ble_eq_true rfl) rfl rfl ?_
        refine am_goto (pc' := 28) dX0_roundOf_53 rfl ?_
        rw [show nxt P B kd (gi (nxt P B kd) s.toNat f) = gi (nxt P B kd) (s + 1).toNat f by rw [show (s + 1).toNat = s.toNat + 1 by omega]; rfl]
        refine ih _ (by omega) (by omega) (by omega) (fun j j0 hj => ?_)
        by_cases z : (j : Int) < s
        · exact hm j j0 z
        · rw [show j = s.toNat by omega]; exact c_31
theorem t_roundOf {ρ h : am_H} {A L P B c : Int} {kd : Int → Int} (hQ : ar_Q ρ h A L P B kd) (hc : 0 ≤ c ∧ c < h 19 7) : am_CT mX0_roundOf 0 0 [am_R 19, am_I c] ρ h (fun r ρ' h' => ρ' = ρ ∧ h' = h ∧ ∃ v, r = some (am_I v) ∧ v ≤ h 19 7 ∧ gr_rd (nxt P B kd) c v) := by
  have hN := ar_QN hQ
  have hin := ar_Qin hQ
  obtain ⟨hC, hD, ⟨⟨c1, c2, c3, c4⟩, d1, d2, d3, d4, d5, d6, d7⟩, hP, hB⟩ := id hQ
  obtain ⟨k0, k1, k2, k3, k4, k5, ⟨e1, e2, e3, e4, e5⟩, ⟨l1, l2, l3, l4, l5⟩, hA, hL0, hL7⟩ := am_DAx hD
  have hn58 := hC.1
  have hrt := (d2 c hc.1 hc.2).2
  have hrb : 0 ≤ h (A + 3) c ∧ h (A + 3) c < h 19 7 := by
    obtain ⟨-, t, e⟩ := hrt
    rw [← e]
    exact gi_in hin hc.1 hc.2 t
  refine am_ct (ls := [some (am_R 19), some (am_I c), none, none, none]) ok_X0_roundOf rfl (fun _ => Nat.le_of_ble_eq_true rfl) (fun _ => rfl) (by intro v hv; simpa using hv) ?_
  refine am_aload_n (pc' := 1) dX0_roundOf_0 rfl rfl rfl ?_
  refine am_iload_n (pc' := 2) dX0_roundOf_1 rfl rfl rfl ?_
  refine am_callVp (pc' := 5) (as := [_]) (ci := 0)  rfl dX0_roundOf_2 rfl ok_X0_isRow ml_X0_104 im_X0_isRow se_X0_isRow rfl (Nat.le_of_ble_eq_true rfl) rfl (Nat.le_of_ble_eq_true rfl) (by first | assumption | exact ⟨by omega, by omega, rfl⟩) (t_isRow hD) ?_
  refine am_if_eq (pc' := 8) (tgt := 17) dX0_roundOf_5 rfl rfl (fun c_5 => ?_) (fun c_5 => ?_)
  · simp only [am_z0, am_z1, ne_eq] at c_5
    exact absurd hc c_5
  · simp only [am_z0, am_z1, ne_eq] at c_5
    refine am_aload_n (pc' := 9) dX0_roundOf_8 rfl rfl rfl ?_
    refine am_getRk (ki := 4) (pc' := 12) (k := 4) (ci := 0) rfl dX0_roundOf_9 rfl fl_X0_28 (by first | assumption | exact ⟨by omega, by omega, rfl⟩) rfl (by assumption) (by omega) ?_
    refine am_iload_n (pc' := 13) dX0_roundOf_12 rfl rfl rfl ?_
    refine am_iaload (pc' := 14) dX0_roundOf_13 rfl (by first | assumption | exact ⟨by omega, by omega, rfl⟩) (by omega) (by omega) ?_
    refine am_goto (pc' := 18) dX0_roundOf_14 rfl ?_
    refine am_istore_n (pc' := 19) (ls' := [_, _, _, _, _]) dX0_roundOf_18 rfl rfl (Nat.le_of_ble_eq_true rfl) rfl rfl ?_
    refine am_iconst (pc' := 20) dX0_roundOf_19 rfl rfl ?_
    refine am_istore_n (pc' := 21) (ls' := [_, _, _, _, _]) dX0_roundOf_20 rfl rfl (Nat.le_of_ble_eq_true rfl) rfl rfl ?_
    refine am_aload_n (pc' := 22) dX0_roundOf_21 rfl rfl rfl ?_
    refine am_iload_n (pc' := 23) dX0_roundOf_22 rfl rfl rfl ?_
    refine am_callVp (pc' := 26) (as := [_]) (ci := 0)  rfl dX0_roundOf_23 rfl ok_X0_nextOf ml_X0_115 im_X0_nextOf se_X0_nextOf rfl (Nat.le_of_ble_eq_true rfl) rfl (Nat.le_of_ble_eq_true rfl) (by first | assumption | exact ⟨by omega, by omega, rfl⟩) (t_nextOf hD hN.2.2.1 hrb.1 hrb.2) ?_
    rw [d1 _ hrb.1 hrb.2]
    refine am_istore (pc' := 28) (ls' := [_, _, _, _, _]) dX0_roundOf_26 rfl (Nat.le_of_ble_eq_true rfl) rfl rfl ?_
    exact t_roundOf_l hQ hrb hrt.1 (fun v a b => ⟨rfl, rfl, v, rfl, a, _, hrt, b⟩) ((h 19 7).toNat + 1) 1 (by omega) (by omega) (by omega) (fun j j0 j1 => by omega)
/-- how many steps are left, once whole rounds are left out -/
def bh_left (t tl M : Int) : Int := if t ≤ tl then t else tl + (t - tl) % M
/-- a tail and a round together are no more than there are rows -/
theorem gr_tl_rd {nx : Int → Int} {N c t M : Int} (hin : gr_in nx N) (h0 : 0 ≤ c) (h1 : c < N) (ht : gr_tl nx c t) (hr : gr_rd nx c M) : t + M ≤ N := by
  obtain ⟨t0, ton, tmin⟩ := ht
  obtain ⟨r, hrt, hp⟩ := hr
  have hrq : gr_rt nx c (gi nx t.toNat c) := ⟨ton, _, rfl⟩
  obtain ⟨k, hk⟩ := gr_same hrt hrq
  obtain ⟨m, hm⟩ := gr_same hrq hrt
  obtain ⟨p0, -, pm⟩ := gr_per_move k m hk hm hp
  have z := gr_ph N.toNat (t + M).toNat (fun i => gi nx i c) (fun i _ => by
    have := gi_in hin h0 h1 i
    omega) (fun i j hij hj e => by
    have on : onc nx (gi nx i c) := ⟨j - i, by omega, by rw [← gi_add, show j - i + i = j by omega]; exact e.symm⟩
    by_cases hi : (i : Int) < t
    · exact tmin i hi on
    · have e1 : gi nx (i - t.toNat) (gi nx t.toNat c) = gi nx (j - t.toNat) (gi nx t.toNat c) := by
        rw [← gi_add, ← gi_add, show i - t.toNat + t.toNat = i by omega, show j - t.toNat + t.toNat = j by omega]; exact e
      have e2 := onc_inj ton (show i - t.toNat ≤ j - t.toNat by omega) e1
      exact pm _ (by omega) (by omega) e2)
  omega
theorem t_behind_l {ρ h : am_H} {A L P B c : Int} {kd : Int → Int} {Q : am_Q} {v2 v3 v4 v5 : Option am_V} {m : Int} (hQ : ar_Q ρ h A L P B kd) (hc : 0 ≤ c ∧ c < h 19 7) (hm : 0 ≤ m ∧ m ≤ h 19 7) (hq : Q (some (am_I (gi (nxt P B kd) m.toNat c))) ρ h) :
    ∀ (n : Nat) (s : Int), (m - s).toNat < n → 0 ≤ s → s ≤ m → am_WP mX0_behind 0 0 53 [some (am_R 19), some (am_I c), v2, v3, v4, v5, some (am_L m), none, some (am_I (gi (nxt P B kd) s.toNat c)), some (am_I s)] [] ρ h Q := by
  have hN := ar_QN hQ
  have hin := ar_Qin hQ
  obtain ⟨hC, hD, ⟨⟨c1, c2, c3, c4⟩, d1, d2, d3, d4, d5, d6, d7⟩, hP, hB⟩ := id hQ
  obtain ⟨k0, k1, k2, k3, k4, k5, ⟨e1, e2, e3, e4, e5⟩, ⟨l1, l2, l3, l4, l5⟩, hA, hL0, hL7⟩ := am_DAx hD
  have hn58 := hC.1
  intro n
  induction n with
  | zero => intro s hk; omega
  | succ n ih =>
    intro s hk h0 h1
    have ga := gi_in hin hc.1 hc.2 s.toNat
    refine am_iload (pc' := 55) dX0_behind_53 rfl rfl ?_
    refine am_i2l (pc' := 56) dX0_behind_55 rfl ?_
    refine am_lload (pc' := 58) dX0_behind_56 rfl rfl ?_
    refine am_lcmp_ge (pc1 := 59) (pc' := 62) (tgt := 85) dX0_behind_58 rfl dX0_behind_59 rfl rfl (fun c_58 => ?_) (fun c_58 => ?_)
    · refine am_iload (pc' := 87) dX0_behind_85 rfl rfl ?_
      refine am_reti dX0_behind_87 rfl ?_
      rw [show s.toNat = m.toNat by omega]; exact hq
    · refine am_iload (pc' := 64) dX0_behind_62 rfl rfl ?_
      refine am_aload_n (pc' := 65) dX0_behind_64 rfl rfl rfl ?_
      refine am_getIk (ki := 7) (pc' := 68) (k := 7) (ci := 0) rfl dX0_behind_65 rfl fl_X0_38 (by first | assumption | exact ⟨by omega, by omega, rfl⟩) rfl ?_
      refine am_icmp_ge (pc' := 71) (tgt := 85) dX0_behind_68 rfl rfl (fun c_68 => ?_) (fun c_68 => ?_)
      · exfalso; omega
      · refine am_aload_n (pc' := 72) dX0_behind_71 rfl rfl rfl ?_
        refine am_iload (pc' := 74) dX0_behind_72 rfl rfl ?_
        refine am_callVp (pc' := 77) (as := [_]) (ci := 0)  rfl dX0_behind_74 rfl ok_X0_nextOf ml_X0_115 im_X0_nextOf se_X0_nextOf rfl (Nat.le_of_ble_eq_true rfl) rfl (Nat.le_of_ble_eq_true rfl) (by first | assumption | exact ⟨by omega, by omega, rfl⟩) (t_nextOf hD hN.2.2.1 ga.1 ga.2) ?_
        rw [d1 _ ga.1 ga.2]
        refine am_istore (pc' := 79) (ls' := [_, _, _, _, _, _, _, _, _, _]) dX0_behind_77 rfl (Nat.le_of_ble_eq_true rfl) rfl rfl ?_
        refine am_iinc (pc' := 82) (ls' := [_, _, _, _, _, _, _, _, _, _]) dX0_behind_79 rfl rfl ⟨by omega, by omega⟩ (Nat.le_of_ble_eq_true rfl) rfl rfl ?_
        refine am_goto (pc' := 53) dX0_behind_82 rfl ?_
        rw [show nxt P B kd (gi (nxt P B kd) s.toNat c) = gi (nxt P B kd) (s + 1).toNat c by rw [show (s + 1).toNat = s.toNat + 1 by omega]; rfl]
        exact ih _ (by omega) (by omega) (by omega)
theorem t_behind {ρ h : am_H} {A L P B c t : Int} {kd : Int → Int} (hQ : ar_Q ρ h A L P B kd) (hc : 0 ≤ c ∧ c < h 19 7) (ht : 0 ≤ t ∧ t ≤ 1000000000000000000) : am_CT mX0_behind 0 0 [am_R 19, am_I c, am_L t] ρ h (fun r ρ' h' => ρ' = ρ ∧ h' = h ∧ ∃ M, gr_rd (nxt P B kd) c M ∧ r = some (am_I (gi (nxt P B kd) (bh_left t (h (A + 4) c) M).toNat c))) := by
  have hN := ar_QN hQ
  have hin := ar_Qin hQ
  obtain ⟨hC, hD, ⟨⟨c1, c2, c3, c4⟩, d1, d2, d3, d4, d5, d6, d7⟩, hP, hB⟩ := id hQ
  obtain ⟨k0, k1, k2, k3, k4, k5, ⟨e1, e2, e3, e4, e5⟩, ⟨l1, l2, l3, l4, l5⟩, hA, hL0, hL7⟩ := am_DAx hD
  have hn58 := hC.1
  have htl := (d2 c hc.1 hc.2).1
  have htlt := gr_tl_lt hin hc.1 hc.2 htl
  have htl0 := htl.1
  refine am_ct (ls := [some (am_R 19), some (am_I c), some (am_L t), none, none, none, none, none, none, none]) ok_X0_behind rfl (fun _ => Nat.le_of_ble_eq_true rfl) (fun _ => rfl) (by intro v hv; simpa using hv) ?_
  refine am_aload_n (pc' := 1) dX0_behind_0 rfl rfl rfl ?_
  refine am_iload_n (pc' := 2) dX0_behind_1 rfl rfl rfl ?_
  refine am_callVp (pc' := 5) (as := [_]) (ci := 0)  rfl dX0_behind_2 rfl ok_X0_tailOf ml_X0_125 im_X0_tailOf se_X0_tailOf rfl (Nat.le_of_ble_eq_true rfl) rfl (Nat.le_of_ble_eq_true rfl) (by first | assumption | exact ⟨by omega, by omega, rfl⟩) (t_tailOf hD hN.2.2.1 hc.1 hc.2) ?_
  refine am_istore (pc' := 7) (ls' := [_, _, _, _, _, _, _, _, _, _]) dX0_behind_5 rfl (Nat.le_of_ble_eq_true rfl) rfl rfl ?_
  refine am_aload_n (pc' := 8) dX0_behind_7 rfl rfl rfl ?_
  refine am_iload_n (pc' := 9) dX0_behind_8 rfl rfl rfl ?_
  refine am_callV0 (pc' := 12) (as := [_]) (ci := 0)  rfl dX0_behind_9 rfl ok_X0_roundOf ml_X0_128 im_X0_roundOf se_X0_roundOf rfl (Nat.le_of_ble_eq_true rfl) rfl (Nat.le_of_ble_eq_true rfl) (by first | assumption | exact ⟨by omega, by omega, rfl⟩) (t_roundOf hQ hc) (fun r_9 ρ_9 h_9 q_9 g_9 e_9 => ?_)
  obtain ⟨rfl, rfl, M, rfl, hM, hrd⟩ := q_9
  have hM0 : 0 < M := by obtain ⟨_, _, hp⟩ := hrd; exact hp.1
  have htm := gr_tl_rd hin hc.1 hc.2 htl hrd
  have hmod0 := Int.emod_nonneg (t - h_9 (A + 4) c) (by omega : M ≠ 0)
  have hmod1 := Int.emod_lt_of_pos (t - h_9 (A + 4) c) hM0
  refine am_istore (pc' := 14) (ls' := [_, _, _, _, _, _, _, _, _, _]) dX0_behind_12 rfl (Nat.le_of_ble_eq_true rfl) rfl rfl ?_
  refine am_lload_n (pc' := 15) dX0_behind_14 rfl rfl rfl ?_
  refine am_lstore (pc' := 17) (ls' := [_, _, _, _, _, _, _, _, _, _]) dX0_behind_15 rfl (Nat.le_of_ble_eq_true rfl) rfl rfl ?_
  refine am_lload (pc' := 19) dX0_behind_17 rfl rfl ?_
  refine am_iload (pc' := 21) dX0_behind_19 rfl rfl ?_
  refine am_i2l (pc' := 22) dX0_behind_21 rfl ?_
  refine am_lcmp_le (pc1 := 23) (pc' := 26) (tgt := 47) dX0_behind_22 rfl dX0_behind_23 rfl rfl (fun c_22 => ?_) (fun c_22 => ?_)
  · refine am_iload_n (pc' := 48) dX0_behind_47 rfl rfl rfl ?_
    refine am_istore (pc' := 50) (ls' := [_, _, _, _, _, _, _, _, _, _]) dX0_behind_48 rfl (Nat.le_of_ble_eq_true rfl) rfl rfl ?_
    refine am_iconst (pc' := 51) dX0_behind_50 rfl rfl ?_
    refine am_istore (pc' := 53) (ls' := [_, _, _, _, _, _, _, _, _, _]) dX0_behind_51 rfl (Nat.le_of_ble_eq_true rfl) rfl rfl ?_
    first | exact t_behind_l hQ hc (by omega) ⟨rfl, rfl, M, hrd, by unfold bh_left; rw [if_pos (by omega)]⟩ (t.toNat + 1) 0 (by omega) (by omega) (by omega) | exact t_behind_l hQ hc (by omega) ⟨rfl, rfl, M, hrd, by unfold bh_left; rw [if_neg (by omega)]⟩ ((h_9 (A + 4) c + (t - h_9 (A + 4) c) % M).toNat + 1) 0 (by omega) (by omega) (by omega) | fail
  · refine am_iload (pc' := 28) dX0_behind_26 rfl rfl ?_
    refine am_if_le (pc' := 31) (tgt := 47) dX0_behind_28 rfl rfl (fun c_28 => ?_) (fun c_28 => ?_)
    · exfalso; omega
    · refine am_iload (pc' := 33) dX0_behind_31 rfl rfl ?_
      refine am_i2l (pc' := 34) dX0_behind_33 rfl ?_
      refine am_lload (pc' := 36) dX0_behind_34 rfl rfl ?_
      refine am_iload (pc' := 38) dX0_behind_36 rfl rfl ?_
      refine am_i2l (pc' := 39) dX0_behind_38 rfl ?_
      refine am_lsub (pc' := 40) dX0_behind_39 rfl ⟨by omega, by omega⟩ ?_
      refine am_iload (pc' := 42) dX0_behind_40 rfl rfl ?_
      refine am_i2l (pc' := 43) dX0_behind_42 rfl ?_
      refine am_lrem (pc' := 44) dX0_behind_43 rfl (by omega) (by omega) ?_
      refine am_ladd (pc' := 45) dX0_behind_44 rfl ⟨by omega, by omega⟩ ?_
      refine am_lstore (pc' := 47) (ls' := [_, _, _, _, _, _, _, _, _, _]) dX0_behind_45 rfl (Nat.le_of_ble_eq_true rfl) rfl rfl ?_
      refine am_iload_n (pc' := 48) dX0_behind_47 rfl rfl rfl ?_
      refine am_istore (pc' := 50) (ls' := [_, _, _, _, _, _, _, _, _, _]) dX0_behind_48 rfl (Nat.le_of_ble_eq_true rfl) rfl rfl ?_
      refine am_iconst (pc' := 51) dX0_behind_50 rfl rfl ?_
      refine am_istore (pc' := 53) (ls' := [_, _, _, _, _, _, _, _, _, _]) dX0_behind_51 rfl (Nat.le_of_ble_eq_true rfl) rfl rfl ?_
      first | exact t_behind_l hQ hc (by omega) ⟨rfl, rfl, M, hrd, by unfold bh_left; rw [if_pos (by omega)]⟩ (t.toNat + 1) 0 (by omega) (by omega) (by omega) | exact t_behind_l hQ hc (by omega) ⟨rfl, rfl, M, hrd, by unfold bh_left; rw [if_neg (by omega)]⟩ ((h_9 (A + 4) c + (t - h_9 (A + 4) c) % M).toNat + 1) 0 (by omega) (by omega) (by omega) | fail
