/-! Spread: begun, gone on, counted -/
theorem am_LY_growS {ρ ρ' : am_H} {A L S K N : Int} (h : am_LY ρ A L S K) (h0 : ρ' 0 0 = ρ 0 0 + 3) (h1 : ∀ x j, 0 < x → x < ρ 0 0 → ¬ (x = 29 ∧ 0 ≤ j ∧ j ≤ 2) → ρ' x j = ρ x j) (h2 : am_DS ρ' (ρ 0 0) N) : am_LY ρ' A L (ρ 0 0) N := by
  obtain ⟨hC, hM, hD, hS, hd⟩ := h
  have hn := hC.1
  obtain ⟨s1, s2, s3, ⟨s4, s5, s6, s7, s8⟩, ⟨t4, t5, t6, t7, t8⟩, s10⟩ := hD
  refine ⟨⟨by omega, fun q hq => ?_⟩, ⟨by omega, fun q hq => ?_⟩, ⟨⟨by omega, by omega, rfl⟩, s2, by omega, ⟨?_, ?_, ?_, ?_, ?_⟩, ⟨?_, ?_, ?_, ?_, ?_⟩, s10⟩, h2, Or.inl s3⟩
  · rw [← hC.2 q hq]
    have : ∀ q ∈ am_layC, 0 < q.1 ∧ q.1 < 58 ∧ ¬ (q.1 = 29 ∧ 0 ≤ q.2.1 ∧ q.2.1 ≤ 2) := by decide
    have hz := this q hq
    exact h1 _ _ hz.1 (by omega) hz.2.2
  · rw [← hM.2 q hq]
    have : ∀ q ∈ am_layM, 0 < q.1 ∧ q.1 < 58 ∧ ¬ (q.1 = 29 ∧ 0 ≤ q.2.1 ∧ q.2.1 ≤ 2) := by decide
    have hz := this q hq
    exact h1 _ _ hz.1 (by omega) hz.2.2
  · rw [h1 _ _ (by omega) (by omega) (by omega), s4]
  · rw [h1 _ _ (by omega) (by omega) (by omega), s5]
  · rw [h1 _ _ (by omega) (by omega) (by omega), s6]
  · rw [h1 _ _ (by omega) (by omega) (by omega), s7]
  · rw [h1 _ _ (by omega) (by omega) (by omega), s8]
  · rw [h1 _ _ (by omega) (by omega) (by omega), t4]
  · rw [h1 _ _ (by omega) (by omega) (by omega), t5]
  · rw [h1 _ _ (by omega) (by omega) (by omega), t6]
  · rw [h1 _ _ (by omega) (by omega) (by omega), t7]
  · rw [h1 _ _ (by omega) (by omega) (by omega), t8]
theorem t_forgetS {ρ h : am_H} (hC : am_LC ρ) : am_CT mX5_forget 0 0 [am_R 29] ρ h (fun v ρ' h' => v = none ∧ ρ' = ρ ∧ h' = am_u h 29 4 (-9)) := by
  have hn58 := hC.1
  refine am_ct (ls := [some (am_R 29)]) ok_X5_forget rfl (fun _ => Nat.le_of_ble_eq_true rfl) (fun _ => rfl) (by intro v hv; simpa using hv) ?_
  refine am_aload_n (pc' := 1) dX5_forget_0 rfl rfl rfl ?_
  refine am_bipush (pc' := 3) dX5_forget_1 rfl rfl (by decide) ?_
  refine am_putIk (ki := 4) (pc' := 6) (k := 4) (ci := 5) rfl dX5_forget_3 rfl fl_X5_25 (by first | assumption | exact ⟨by omega, by omega, rfl⟩) rfl (fun _ _ _ e => by cases e; rfl) ?_
  refine am_retv dX5_forget_6 rfl ?_
  exact ⟨rfl, rfl, rfl⟩
theorem t_forgetA {ρ h : am_H} (hC : am_LC ρ) : am_CT mX0_forget 0 0 [am_R 19] ρ h (fun v ρ' h' => v = none ∧ ρ' = ρ ∧ h' = am_u h 19 7 0) := by
  have hn58 := hC.1
  refine am_ct (ls := [some (am_R 19)]) ok_X0_forget rfl (fun _ => Nat.le_of_ble_eq_true rfl) (fun _ => rfl) (by intro v hv; simpa using hv) ?_
  refine am_aload_n (pc' := 1) dX0_forget_0 rfl rfl rfl ?_
  refine am_iconst (pc' := 2) dX0_forget_1 rfl rfl ?_
  refine am_putIk (ki := 7) (pc' := 5) (k := 7) (ci := 0) rfl dX0_forget_2 rfl fl_X0_38 (by first | assumption | exact ⟨by omega, by omega, rfl⟩) rfl (fun _ _ _ e => by cases e; rfl) ?_
  refine am_retv dX0_forget_5 rfl ?_
  exact ⟨rfl, rfl, rfl⟩
theorem sp_V_begin {h : am_H} {S N : Int} {nx : Int → Int} (hN : 0 ≤ N) (hr : ∀ k, 0 ≤ k → k < N → h S k = k ∧ h (S + 1) k = 1) : sp_V h S N N nx 0 := by
  refine ⟨by omega, fun k k0 k1 => ?_, fun φ => mt_sum_eq (fun p p0 p1 => ?_)⟩
  · have := hr k k0 k1
    omega
  · have := hr p p0 (by omega)
    show h (S + 1) p * φ (h S p) = φ p
    rw [this.1, this.2]; omega
theorem t_begin_l {ρ h : am_H} {S K N : Int} {nx : Int → Int} {Q : am_Q} (h58 : 58 ≤ ρ 0 0) (hS : am_DS ρ S K) (hN : 0 < N ∧ N ≤ 7776 ∧ N ≤ K) (eN : h 19 7 = N)
    (hq : ∀ h1, am_fr [29, S, S + 1] h h1 → sp_V h1 S N N nx 0 → h1 29 3 = N → h1 29 4 = 0 → Q none ρ h1) :
    ∀ (n : Nat) (t : Int) (h1 : am_H), (N - t).toNat < n → 0 ≤ t → t ≤ N → am_fr [29, S, S + 1] h h1 → (∀ k, 0 ≤ k → k < t → h1 S k = k ∧ h1 (S + 1) k = 1) → am_WP mX5_begin 0 0 44 [some (am_R 29), some (am_R 19), some (am_I t)] [] ρ h1 Q := by
  obtain ⟨s0, s1, s2, s3, ⟨f1, f2, f3⟩, ⟨m1, m2, m3⟩, hS9, hK0, hK7⟩ := am_DSx hS
  have k0 : am_in ρ 19 0 := ⟨by omega, by omega, rfl⟩
  intro n
  induction n with
  | zero => intro t h1 hk; omega
  | succ n ih =>
    intro t h1 hk h0 h9 hf hr
    have g1 : h1 19 7 = N := by rw [hf 19 7 (by simp <;> omega), eN]
    refine am_iload_n (pc' := 45) dX5_begin_44 rfl rfl rfl ?_
    refine am_aload_n (pc' := 46) dX5_begin_45 rfl rfl rfl ?_
    refine am_getIk (ki := 7) (pc' := 49) (k := 7) (ci := 0) rfl dX5_begin_46 rfl fl_X5_35 (by first | assumption | exact ⟨by omega, by omega, rfl⟩) rfl ?_
    refine am_icmp_ge (pc' := 52) (tgt := 72) dX5_begin_49 rfl rfl (fun c_49 => ?_) (fun c_49 => ?_)
    · refine am_aload_n (pc' := 73) dX5_begin_72 rfl rfl rfl ?_
      refine am_aload_n (pc' := 74) dX5_begin_73 rfl rfl rfl ?_
      refine am_getIk (ki := 7) (pc' := 77) (k := 7) (ci := 0) rfl dX5_begin_74 rfl fl_X5_35 (by first | assumption | exact ⟨by omega, by omega, rfl⟩) rfl ?_
      rw [g1]
      refine am_putIk (ki := 3) (pc' := 80) (k := 3) (ci := 5) rfl dX5_begin_77 rfl fl_X5_21 (by first | assumption | exact ⟨by omega, by omega, rfl⟩) rfl (fun _ _ _ e => by cases e; rfl) ?_
      refine am_aload_n (pc' := 81) dX5_begin_80 rfl rfl rfl ?_
      refine am_iconst (pc' := 82) dX5_begin_81 rfl rfl ?_
      refine am_putIk (ki := 4) (pc' := 85) (k := 4) (ci := 5) rfl dX5_begin_82 rfl fl_X5_25 (by first | assumption | exact ⟨by omega, by omega, rfl⟩) rfl (fun _ _ _ e => by cases e; rfl) ?_
      refine am_retv dX5_begin_85 rfl ?_
      refine hq _ (am_fr_u (am_fr_u hf (by simp <;> omega)) (by simp <;> omega)) (sp_V_begin (by omega) (fun k z0 z1 => ?_)) (by rw [am_u_n (by omega), am_u_s]) (am_u_s _ _ _ _)
      rw [am_u_n (by omega), am_u_n (by omega), am_u_n (by omega), am_u_n (by omega)]; exact hr k z0 (by omega)
    · refine am_aload_n (pc' := 53) dX5_begin_52 rfl rfl rfl ?_
      refine am_getRk (ki := 0) (pc' := 56) (k := 0) (ci := 5) rfl dX5_begin_53 rfl fl_X5_9 (by first | assumption | exact ⟨by omega, by omega, rfl⟩) rfl (by assumption) (by omega) ?_
      refine am_iload_n (pc' := 57) dX5_begin_56 rfl rfl rfl ?_
      refine am_iload_n (pc' := 58) dX5_begin_57 rfl rfl rfl ?_
      refine am_iastore (pc' := 59) dX5_begin_58 rfl (by first | assumption | exact ⟨by omega, by omega, rfl⟩) (by omega) (by omega) ?_
      refine am_aload_n (pc' := 60) dX5_begin_59 rfl rfl rfl ?_
      refine am_getRk (ki := 1) (pc' := 63) (k := 1) (ci := 5) rfl dX5_begin_60 rfl fl_X5_15 (by first | assumption | exact ⟨by omega, by omega, rfl⟩) rfl (by assumption) (by omega) ?_
      refine am_iload_n (pc' := 64) dX5_begin_63 rfl rfl rfl ?_
      refine am_iconst (pc' := 65) dX5_begin_64 rfl rfl ?_
      refine am_iastore (pc' := 66) dX5_begin_65 rfl (by first | assumption | exact ⟨by omega, by omega, rfl⟩) (by omega) (by omega) ?_
      refine am_iinc (pc' := 69) (ls' := [_, _, _]) dX5_begin_66 rfl rfl ⟨by omega, by omega⟩ (Nat.le_of_ble_eq_true rfl) rfl rfl ?_
      refine am_goto (pc' := 44) dX5_begin_69 rfl ?_
      refine ih _ _ (by omega) (by omega) (by omega) (am_fr_u (am_fr_u hf (by simp <;> omega)) (by simp <;> omega)) (am_upto (fun k z0 z1 => ?_) ?_)
      · rw [am_u_n (by omega), am_u_n (by omega), am_u_n (by omega), am_u_n (by omega)]; exact hr k z0 z1
      · rw [am_u_n (by omega), am_u_s, am_u_s]; exact ⟨rfl, rfl⟩
theorem t_begin0 {ρ h : am_H} {S K N : Int} {nx : Int → Int} (h58 : 58 ≤ ρ 0 0) (hS : am_DS ρ S K) (hN : 0 < N ∧ N ≤ 7776 ∧ N ≤ K) (eN : h 19 7 = N) : am_CT mX5_begin 0 0 [am_R 29, am_R 19] ρ h (fun v ρ' h' => v = none ∧ ρ' = ρ ∧ am_fr [29, S, S + 1] h h' ∧ sp_V h' S N N nx 0 ∧ h' 29 3 = N ∧ h' 29 4 = 0) := by
  obtain ⟨s0, s1, s2, s3, ⟨f1, f2, f3⟩, ⟨m1, m2, m3⟩, hS9, hK0, hK7⟩ := am_DSx hS
  have k0 : am_in ρ 19 0 := ⟨by omega, by omega, rfl⟩
  refine am_ct (ls := [some (am_R 29), some (am_R 19), none]) ok_X5_begin rfl (fun _ => Nat.le_of_ble_eq_true rfl) (fun _ => rfl) (by intro v hv; simpa using hv) ?_
  refine am_aload_n (pc' := 1) dX5_begin_0 rfl rfl rfl ?_
  refine am_getRk (ki := 0) (pc' := 4) (k := 0) (ci := 5) rfl dX5_begin_1 rfl fl_X5_9 (by first | assumption | exact ⟨by omega, by omega, rfl⟩) rfl (by assumption) (by omega) ?_
  refine am_alen (pc' := 5) dX5_begin_4 rfl (by first | assumption | exact ⟨by omega, by omega, rfl⟩) (by assumption) ?_
  refine am_aload_n (pc' := 6) dX5_begin_5 rfl rfl rfl ?_
  refine am_getIk (ki := 7) (pc' := 9) (k := 7) (ci := 0) rfl dX5_begin_6 rfl fl_X5_35 (by first | assumption | exact ⟨by omega, by omega, rfl⟩) rfl ?_
  refine am_icmp_ge (pc' := 12) (tgt := 42) dX5_begin_9 rfl rfl (fun c_9 => ?_) (fun c_9 => ?_)
  · refine am_iconst (pc' := 43) dX5_begin_42 rfl rfl ?_
    refine am_istore_n (pc' := 44) (ls' := [_, _, _]) dX5_begin_43 rfl rfl (Nat.le_of_ble_eq_true rfl) rfl rfl ?_
    exact t_begin_l h58 hS hN eN (fun h1 a b c d => ⟨rfl, rfl, a, b, c, d⟩) (N.toNat + 1) 0 h (by omega) (by omega) (by omega) am_fr_refl (fun k z0 z1 => by omega)
  · omega
theorem t_beginG {ρ h : am_H} {S K N : Int} {nx : Int → Int} (h58 : 58 ≤ ρ 0 0) (hS : am_DS ρ S K) (hN : 0 < N ∧ N ≤ 7776 ∧ K < N) (eN : h 19 7 = N) : am_CT mX5_begin 3 (0 + N.toNat + N.toNat + N.toNat) [am_R 29, am_R 19] ρ h (fun v ρ' h' => v = none ∧ (∀ x j, x < ρ 0 0 → x ≠ 29 → h' x j = h x j) ∧ ρ' 0 0 = ρ 0 0 + 3 ∧ (∀ x j, 0 < x → x < ρ 0 0 → ¬ (x = 29 ∧ 0 ≤ j ∧ j ≤ 2) → ρ' x j = ρ x j) ∧ am_DS ρ' (ρ 0 0) N ∧ sp_P h' (ρ 0 0) N ∧ sp_V h' (ρ 0 0) N N nx 0 ∧ h' 29 3 = N ∧ h' 29 4 = 0) := by
  obtain ⟨s0, s1, s2, s3, ⟨f1, f2, f3⟩, ⟨m1, m2, m3⟩, hS9, hK0, hK7⟩ := am_DSx hS
  have k0 : am_in ρ 19 0 := ⟨by omega, by omega, rfl⟩
  refine am_ct (ls := [some (am_R 29), some (am_R 19), none]) ok_X5_begin rfl (fun _ => Nat.le_of_ble_eq_true rfl) (fun _ => rfl) (by intro v hv; simpa using hv) ?_
  refine am_aload_n (pc' := 1) dX5_begin_0 rfl rfl rfl ?_
  refine am_getRk (ki := 0) (pc' := 4) (k := 0) (ci := 5) rfl dX5_begin_1 rfl fl_X5_9 (by first | assumption | exact ⟨by omega, by omega, rfl⟩) rfl (by assumption) (by omega) ?_
  refine am_alen (pc' := 5) dX5_begin_4 rfl (by first | assumption | exact ⟨by omega, by omega, rfl⟩) (by assumption) ?_
  refine am_aload_n (pc' := 6) dX5_begin_5 rfl rfl rfl ?_
  refine am_getIk (ki := 7) (pc' := 9) (k := 7) (ci := 0) rfl dX5_begin_6 rfl fl_X5_35 (by first | assumption | exact ⟨by omega, by omega, rfl⟩) rfl ?_
  refine am_icmp_ge (pc' := 12) (tgt := 42) dX5_begin_9 rfl rfl (fun c_9 => ?_) (fun c_9 => ?_)
  · exfalso; omega
  · refine am_aload_n (pc' := 13) dX5_begin_12 rfl rfl rfl ?_
    refine am_aload_n (pc' := 14) dX5_begin_13 rfl rfl rfl ?_
    refine am_getIk (ki := 7) (pc' := 17) (k := 7) (ci := 0) rfl dX5_begin_14 rfl fl_X5_35 (by first | assumption | exact ⟨by omega, by omega, rfl⟩) rfl ?_
    rw [eN]
    refine am_newarr (pc' := 19)  dX5_begin_17 rfl ac_int (by omega) (by omega) (am_K8 (by omega)) ?_
    have i0 : am_in (am_newR ρ N) 29 5 := ⟨by omega, by rw [am_newR_n N (by omega)]; omega, rfl⟩
    refine am_putRk (ki := 0) (pc' := 22) (k := 0) (ci := 5) rfl dX5_begin_19 rfl fl_X5_9 (by first | assumption | exact ⟨by omega, by omega, rfl⟩) rfl (by omega) (fun _ _ _ e => by cases e; rfl) ?_
    obtain ⟨ρ1, h1, r1, w1, a1, a2, a3, a4, b1⟩ := am_grow (ρ := ρ) (h := h) (N := N) (o := 29) (k := 0) h58 (by omega) (by omega)
    rw [← r1, ← w1]
    have j1 : am_in ρ1 29 5 := ⟨by omega, by omega, rfl⟩
    have j1b : am_in ρ1 19 0 := ⟨by omega, by omega, rfl⟩
    refine am_aload_n (pc' := 23) dX5_begin_22 rfl rfl rfl ?_
    refine am_aload_n (pc' := 24) dX5_begin_23 rfl rfl rfl ?_
    refine am_getIk (ki := 7) (pc' := 27) (k := 7) (ci := 0) rfl dX5_begin_24 rfl fl_X5_35 (by first | assumption | exact ⟨by omega, by omega, rfl⟩) rfl ?_
    rw [b1 19 7 (by omega), eN]
    refine am_newarr (pc' := 29)  dX5_begin_27 rfl ac_int (by omega) (by omega) (am_K8 (by omega)) ?_
    have i1 : am_in (am_newR ρ1 N) 29 5 := ⟨by omega, by rw [am_newR_n N (by omega)]; omega, rfl⟩
    refine am_putRk (ki := 1) (pc' := 32) (k := 1) (ci := 5) rfl dX5_begin_29 rfl fl_X5_15 (by first | assumption | exact ⟨by omega, by omega, rfl⟩) rfl (by omega) (fun _ _ _ e => by cases e; rfl) ?_
    obtain ⟨ρ2, h2, r2, w2, c1, c2, c3, c4, d1⟩ := am_grow (ρ := ρ1) (h := h1) (N := N) (o := 29) (k := 1) (by omega) (by omega) (by omega)
    rw [← r2, ← w2]
    have j2 : am_in ρ2 29 5 := ⟨by omega, by omega, rfl⟩
    have j2b : am_in ρ2 19 0 := ⟨by omega, by omega, rfl⟩
    refine am_aload_n (pc' := 33) dX5_begin_32 rfl rfl rfl ?_
    refine am_aload_n (pc' := 34) dX5_begin_33 rfl rfl rfl ?_
    refine am_getIk (ki := 7) (pc' := 37) (k := 7) (ci := 0) rfl dX5_begin_34 rfl fl_X5_35 (by first | assumption | exact ⟨by omega, by omega, rfl⟩) rfl ?_
    rw [d1 19 7 (by omega), b1 19 7 (by omega), eN]
    refine am_newarr (pc' := 39)  dX5_begin_37 rfl ac_int (by omega) (by omega) (am_K8 (by omega)) ?_
    have i2 : am_in (am_newR ρ2 N) 29 5 := ⟨by omega, by rw [am_newR_n N (by omega)]; omega, rfl⟩
    refine am_putRk (ki := 2) (pc' := 42) (k := 2) (ci := 5) rfl dX5_begin_39 rfl fl_X5_18 (by first | assumption | exact ⟨by omega, by omega, rfl⟩) rfl (by omega) (fun _ _ _ e => by cases e; rfl) ?_
    obtain ⟨ρ3, h3, r3, w3, g1, g2, g3, g4, n1⟩ := am_grow (ρ := ρ2) (h := h2) (N := N) (o := 29) (k := 2) (by omega) (by omega) (by omega)
    rw [← r3, ← w3]
    refine am_iconst (pc' := 43) dX5_begin_42 rfl rfl ?_
    refine am_istore_n (pc' := 44) (ls' := [_, _, _]) dX5_begin_43 rfl rfl (Nat.le_of_ble_eq_true rfl) rfl rfl ?_
    have hDS : am_DS ρ3 (ρ 0 0) N := by
      refine ⟨⟨by omega, by omega, rfl⟩, Or.inr h58, by omega, ⟨?_, ?_, ?_⟩, ⟨?_, ?_, ?_⟩, by omega, by omega⟩
      · rw [g2 29 0 (by omega) (by omega) (by omega), c2 29 0 (by omega) (by omega) (by omega), a3]
      · rw [g2 29 1 (by omega) (by omega) (by omega), c3, a1]
      · rw [g3]; omega
      · rw [g2 _ _ (by omega) (by omega) (by omega), c2 _ _ (by omega) (by omega) (by omega), a4]
      · rw [g2 _ _ (by omega) (by omega) (by omega), ← a1, c4]
      · rw [show ρ 0 0 + 2 = ρ2 0 0 by omega, g4]
    have hz : ∀ j, h3 (ρ 0 0 + 2) j = 0 := fun j => by
      rw [w3, show ρ 0 0 + 2 = ρ2 0 0 by omega]; unfold am_newH; rw [if_pos rfl]
    have e3 : ∀ x j, x < ρ 0 0 → h3 x j = h x j := fun x j z => by rw [n1 x j (by omega), d1 x j (by omega), b1 x j z]
    exact t_begin_l (by omega) hDS ⟨hN.1, hN.2.1, Int.le_refl N⟩ (by rw [e3 19 7 (by omega), eN]) (fun h4 a b c d => ⟨rfl, fun x j z0 z1 => by rw [a x j (by simp <;> omega), e3 x j z0], by omega, fun x j z0 z1 z2 => by rw [g2 x j z0 (by omega) (by omega), c2 x j z0 (by omega) (by omega), a2 x j z0 (by omega) (by omega)], hDS, fun k z0 z1 => by rw [a _ _ (by simp <;> omega), hz]; omega, b, c, d⟩) (N.toNat + 1) 0 h3 (by omega) (by omega) (by omega) am_fr_refl (fun k z0 z1 => by omega)
