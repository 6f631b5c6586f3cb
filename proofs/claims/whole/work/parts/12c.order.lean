theorem am_u_if {h : am_H} {x k v i : Int} : am_u h x k v x i = if i = k then v else h x i := by
  unfold am_u
  by_cases z : i = k
  · rw [if_pos ⟨rfl, z⟩, if_pos z]
  · rw [if_neg (fun y => z y.2), if_neg z]
theorem t_takeAway {ρ h : am_H} {A L c : Int} (hD : am_DA ρ A L) (h0 : 0 ≤ h 19 6) (h1 : h 19 6 < h 19 7) (hN : h 19 7 ≤ L) : am_CT mX0_takeAway 0 0 [am_R 19, am_I c] ρ h (fun v ρ' h' => v = none ∧ ρ' = ρ ∧ h' = am_u (am_u h (A + 2) (h 19 6) c) 19 6 (h 19 6 + 1)) := by
  obtain ⟨k0, k1, k2, k3, k4, k5, ⟨e1, e2, e3, e4, e5⟩, ⟨l1, l2, l3, l4, l5⟩, hA, hL0, hL7⟩ := am_DAx hD
  refine am_ct (ls := [some (am_R 19), some (am_I c)]) ok_X0_takeAway rfl (fun _ => Nat.le_of_ble_eq_true rfl) (fun _ => rfl) (by intro v hv; simpa using hv) ?_
  refine am_aload_n (pc' := 1) dX0_takeAway_0 rfl rfl rfl ?_
  refine am_getIk (ki := 6) (pc' := 4) (k := 6) (ci := 0) rfl dX0_takeAway_1 rfl fl_X0_34 (by first | assumption | exact ⟨by omega, by omega, rfl⟩) rfl ?_
  refine am_aload_n (pc' := 5) dX0_takeAway_4 rfl rfl rfl ?_
  refine am_getIk (ki := 7) (pc' := 8) (k := 7) (ci := 0) rfl dX0_takeAway_5 rfl fl_X0_38 (by first | assumption | exact ⟨by omega, by omega, rfl⟩) rfl ?_
  refine am_icmp_ge (pc' := 11) (tgt := 31) dX0_takeAway_8 rfl rfl (fun c_8 => ?_) (fun c_8 => ?_)
  · exfalso; omega
  · refine am_aload_n (pc' := 12) dX0_takeAway_11 rfl rfl rfl ?_
    refine am_getRk (ki := 3) (pc' := 15) (k := 3) (ci := 0) rfl dX0_takeAway_12 rfl fl_X0_25 (by first | assumption | exact ⟨by omega, by omega, rfl⟩) rfl (by assumption) (by omega) ?_
    refine am_aload_n (pc' := 16) dX0_takeAway_15 rfl rfl rfl ?_
    refine am_getIk (ki := 6) (pc' := 19) (k := 6) (ci := 0) rfl dX0_takeAway_16 rfl fl_X0_34 (by first | assumption | exact ⟨by omega, by omega, rfl⟩) rfl ?_
    refine am_iload_n (pc' := 20) dX0_takeAway_19 rfl rfl rfl ?_
    refine am_iastore (pc' := 21) dX0_takeAway_20 rfl (by first | assumption | exact ⟨by omega, by omega, rfl⟩) (by omega) (by omega) ?_
    refine am_aload_n (pc' := 22) dX0_takeAway_21 rfl rfl rfl ?_
    first | refine am_dupR (pc' := 23) dX0_takeAway_22 rfl ?_ | refine am_dupI (pc' := 23) dX0_takeAway_22 rfl ?_
    refine am_getIk (ki := 6) (pc' := 26) (k := 6) (ci := 0) rfl dX0_takeAway_23 rfl fl_X0_34 (by first | assumption | exact ⟨by omega, by omega, rfl⟩) rfl ?_
    rw [am_u_n (by omega)]
    refine am_iconst (pc' := 27) dX0_takeAway_26 rfl rfl ?_
    refine am_iadd (pc' := 28) dX0_takeAway_27 rfl ⟨by omega, by omega⟩ ?_
    refine am_putIk (ki := 6) (pc' := 31) (k := 6) (ci := 0) rfl dX0_takeAway_28 rfl fl_X0_34 (by first | assumption | exact ⟨by omega, by omega, rfl⟩) rfl (fun _ _ _ e => by cases e; rfl) ?_
    refine am_retv dX0_takeAway_31 rfl ?_
    exact ⟨rfl, rfl, rfl⟩
/-- the count, kept while other fields are written -/
theorem t_order_1 {ρ h : am_H} {A L : Int} {Q : am_Q} (hC : am_LC ρ) (hD : am_DA ρ A L) (hN : 0 < h 19 7 ∧ h 19 7 ≤ L)
    (K : ∀ h1 v, am_fr [19, A + 2] h h1 → (∀ k, k ≠ 6 → h1 19 k = h 19 k) → pr_0 (h 19 7) (h (A + 1)) (h1 (A + 2)) (h1 19 6) (h 19 7) → am_WP mX0_orderThoseThatDoNotComeBack 0 0 35 [some (am_R 19), some (am_I (h 19 7)), v] [] ρ h1 Q) :
    ∀ (n : Nat) (row : Int) (h1 : am_H) (v : Option am_V), (h 19 7 - row).toNat < n → 0 ≤ row → row ≤ h 19 7 → am_fr [19, A + 2] h h1 → (∀ k, k ≠ 6 → h1 19 k = h 19 k) → pr_0 (h 19 7) (h (A + 1)) (h1 (A + 2)) (h1 19 6) row → am_WP mX0_orderThoseThatDoNotComeBack 0 0 7 [some (am_R 19), some (am_I row), v] [] ρ h1 Q := by
  obtain ⟨k0, k1, k2, k3, k4, k5, ⟨e1, e2, e3, e4, e5⟩, ⟨l1, l2, l3, l4, l5⟩, hA, hL0, hL7⟩ := am_DAx hD
  have hn58 := hC.1
  intro n
  induction n with
  | zero => intro row h1 v hk; omega
  | succ n ih =>
    intro row h1 v hk h0 h9 hf hg hp
    have g3 : h1 19 7 = h 19 7 := hg 7 (by decide)
    have g4 : h1 (A + 1) = h (A + 1) := funext fun k => hf (A + 1) k (by simp <;> omega)
    have hb := hp.1
    refine am_iload_n (pc' := 8) dX0_orderThoseThatDoNotComeBack_7 rfl rfl rfl ?_
    refine am_aload_n (pc' := 9) dX0_orderThoseThatDoNotComeBack_8 rfl rfl rfl ?_
    refine am_getIk (ki := 7) (pc' := 12) (k := 7) (ci := 0) rfl dX0_orderThoseThatDoNotComeBack_9 rfl fl_X0_38 (by first | assumption | exact ⟨by omega, by omega, rfl⟩) rfl ?_
    refine am_icmp_ge (pc' := 15) (tgt := 35) dX0_orderThoseThatDoNotComeBack_12 rfl rfl (fun c_12 => ?_) (fun c_12 => ?_)
    · have e9 : row = h 19 7 := by omega
      subst e9
      exact K h1 _ hf hg hp
    · refine am_aload_n (pc' := 16) dX0_orderThoseThatDoNotComeBack_15 rfl rfl rfl ?_
      refine am_getRk (ki := 2) (pc' := 19) (k := 2) (ci := 0) rfl dX0_orderThoseThatDoNotComeBack_16 rfl fl_X0_22 (by first | assumption | exact ⟨by omega, by omega, rfl⟩) rfl (by assumption) (by omega) ?_
      refine am_iload_n (pc' := 20) dX0_orderThoseThatDoNotComeBack_19 rfl rfl rfl ?_
      refine am_iaload (pc' := 21) dX0_orderThoseThatDoNotComeBack_20 rfl (by first | assumption | exact ⟨by omega, by omega, rfl⟩) (by omega) (by omega) ?_
      refine am_if_ne (pc' := 24) (tgt := 29) dX0_orderThoseThatDoNotComeBack_21 rfl rfl (fun c_21 => ?_) (fun c_21 => ?_)
      · refine am_iinc (pc' := 32) (ls' := [_, _, _]) dX0_orderThoseThatDoNotComeBack_29 rfl rfl ⟨by omega, by omega⟩ (Nat.le_of_ble_eq_true rfl) rfl rfl ?_
        refine am_goto (pc' := 7) dX0_orderThoseThatDoNotComeBack_32 rfl ?_
        first | (refine ih _ _ _ (by omega) (by omega) (by omega) hf hg (pr_0_B hp (by omega) (by rw [← g4]; exact c_21)); done) | (refine ih _ _ _ (by omega) (by omega) (by omega) (am_fr_u (am_fr_u hf (by simp <;> omega)) (by simp <;> omega)) (fun k hk => by rw [am_u_n (by omega), am_u_n (by omega)]; exact hg k hk) ?_; rw [am_u_s]; refine pr_0_A hp (by omega) hcz (fun i z0 z1 => ?_); rw [am_u_n (by omega)]; rw [am_u_if])
      · have hcz : h (A + 1) row = 0 := by rw [← g4]; exact c_21
        refine am_aload_n (pc' := 25) dX0_orderThoseThatDoNotComeBack_24 rfl rfl rfl ?_
        refine am_iload_n (pc' := 26) dX0_orderThoseThatDoNotComeBack_25 rfl rfl rfl ?_
        refine am_callV0 (pc' := 29) (as := [_]) (ci := 0)  rfl dX0_orderThoseThatDoNotComeBack_26 rfl ok_X0_takeAway ml_X0_111 im_X0_takeAway se_X0_takeAway rfl (Nat.le_of_ble_eq_true rfl) rfl (Nat.le_of_ble_eq_true rfl) (by first | assumption | exact ⟨by omega, by omega, rfl⟩) (t_takeAway (h := h1) hD (by omega) (by omega) (by omega)) (fun r_26 ρ_26 h_26 q_26 g_26 e_26 => ?_)
        obtain ⟨rfl, rfl, rfl⟩ := q_26
        refine am_iinc (pc' := 32) (ls' := [_, _, _]) dX0_orderThoseThatDoNotComeBack_29 rfl rfl ⟨by omega, by omega⟩ (Nat.le_of_ble_eq_true rfl) rfl rfl ?_
        refine am_goto (pc' := 7) dX0_orderThoseThatDoNotComeBack_32 rfl ?_
        first | (refine ih _ _ _ (by omega) (by omega) (by omega) hf hg (pr_0_B hp (by omega) (by rw [← g4]; exact c_21)); done) | (refine ih _ _ _ (by omega) (by omega) (by omega) (am_fr_u (am_fr_u hf (by simp <;> omega)) (by simp <;> omega)) (fun k hk => by rw [am_u_n (by omega), am_u_n (by omega)]; exact hg k hk) ?_; rw [am_u_s]; refine pr_0_A hp (by omega) hcz (fun i z0 z1 => ?_); rw [am_u_n (by omega)]; rw [am_u_if])
theorem t_order_2 {ρ h : am_H} {A L b : Int} {nx : Int → Int} {Q : am_Q} (hC : am_LC ρ) (hD : am_DA ρ A L) (hN : 0 < h 19 7 ∧ h 19 7 ≤ L) (hin : gr_in nx (h 19 7)) (hnx : ∀ c, 0 ≤ c → c < h 19 7 → h A c = nx c)
    (hq : ∀ h1, am_fr [19, A + 1, A + 2] h h1 → (∀ k, k ≠ 6 → k ≠ 9 → h1 19 k = h 19 k) → h1 19 9 = b → pr_I nx (h 19 7) (h1 (A + 1)) (h1 (A + 2)) (h1 19 6) (h1 19 6) → Q none ρ h1) :
    ∀ (n : Nat) (x : Int) (h1 : am_H) (v : Option am_V), (h 19 7 - x).toNat < n → 0 ≤ x → am_fr [19, A + 1, A + 2] h h1 → (∀ k, k ≠ 6 → k ≠ 9 → h1 19 k = h 19 k) → h1 19 9 = b → pr_I nx (h 19 7) (h1 (A + 1)) (h1 (A + 2)) (h1 19 6) x → am_WP mX0_orderThoseThatDoNotComeBack 0 0 45 [some (am_R 19), some (am_I x), v] [] ρ h1 Q := by
  obtain ⟨k0, k1, k2, k3, k4, k5, ⟨e1, e2, e3, e4, e5⟩, ⟨l1, l2, l3, l4, l5⟩, hA, hL0, hL7⟩ := am_DAx hD
  have hn58 := hC.1
  intro n
  induction n with
  | zero =>
    intro x h1 v hk h0 hf hg hb hp
    omega
  | succ n ih =>
    intro x h1 v hk h0 hf hg hbr hp
    have g3 : h1 19 7 = h 19 7 := hg 7 (by decide) (by decide)
    have g4 : h1 A = h A := funext fun k => hf A k (by simp <;> omega)
    have hb := hp.1
    have K96 : ∀ (h2 : am_H) (w : Option am_V), x < h 19 7 → am_fr [19, A + 1, A + 2] h h2 → (∀ k, k ≠ 6 → k ≠ 9 → h2 19 k = h 19 k) → h2 19 9 = b → pr_I nx (h 19 7) (h2 (A + 1)) (h2 (A + 2)) (h2 19 6) (x + 1) → am_WP mX0_orderThoseThatDoNotComeBack 0 0 96 [some (am_R 19), some (am_I x), w] [] ρ h2 Q := by
      intro h2 w hxn a b d e
      refine am_iinc (pc' := 99) (ls' := [_, _, _]) dX0_orderThoseThatDoNotComeBack_96 rfl rfl ⟨by omega, by omega⟩ (Nat.le_of_ble_eq_true rfl) rfl rfl ?_
      refine am_goto (pc' := 45) dX0_orderThoseThatDoNotComeBack_99 rfl ?_
      exact ih _ _ _ (by omega) (by omega) a b d e
    refine am_iload_n (pc' := 46) dX0_orderThoseThatDoNotComeBack_45 rfl rfl rfl ?_
    refine am_aload_n (pc' := 47) dX0_orderThoseThatDoNotComeBack_46 rfl rfl rfl ?_
    refine am_getIk (ki := 6) (pc' := 50) (k := 6) (ci := 0) rfl dX0_orderThoseThatDoNotComeBack_47 rfl fl_X0_34 (by first | assumption | exact ⟨by omega, by omega, rfl⟩) rfl ?_
    refine am_icmp_ge (pc' := 53) (tgt := 102) dX0_orderThoseThatDoNotComeBack_50 rfl rfl (fun c_50 => ?_) (fun c_50 => ?_)
    · refine am_retv dX0_orderThoseThatDoNotComeBack_102 rfl ?_
      have e9 : x = h1 19 6 := by omega
      subst e9; exact hq h1 hf hg hbr hp
    · refine am_iload_n (pc' := 54) dX0_orderThoseThatDoNotComeBack_53 rfl rfl rfl ?_
      refine am_aload_n (pc' := 55) dX0_orderThoseThatDoNotComeBack_54 rfl rfl rfl ?_
      refine am_getIk (ki := 7) (pc' := 58) (k := 7) (ci := 0) rfl dX0_orderThoseThatDoNotComeBack_55 rfl fl_X0_38 (by first | assumption | exact ⟨by omega, by omega, rfl⟩) rfl ?_
      refine am_icmp_ge (pc' := 61) (tgt := 102) dX0_orderThoseThatDoNotComeBack_58 rfl rfl (fun c_58 => ?_) (fun c_58 => ?_)
      · refine am_retv dX0_orderThoseThatDoNotComeBack_102 rfl ?_
        have e9 : x = h1 19 6 := by omega
        subst e9; exact hq h1 hf hg hbr hp
      · have hod := hp.2.1 x h0 (by omega)
        have hto := hin _ hod.1 hod.2
        have hcmb := pr_pos hp hin (by omega)
        have hnn : h1 A (h1 (A + 2) x) = nx (h1 (A + 2) x) := by rw [g4]; exact hnx _ hod.1 hod.2
        have hcle : h1 (A + 1) (nx (h1 (A + 2) x)) ≤ h 19 7 := by rw [hp.2.2.2.1 _ hto.1 hto.2]; have := mt_sum_nn (f := fun d => mt_ch (nx d = nx (h1 (A + 2) x) ∧ ¬ pr_pc (h1 (A + 2)) x d)) (M := 1) (n := (h 19 7).toNat) (fun p _ _ => mt_ch_in _); unfold pr_cm; omega
        refine am_aload_n (pc' := 62) dX0_orderThoseThatDoNotComeBack_61 rfl rfl rfl ?_
        refine am_aload_n (pc' := 63) dX0_orderThoseThatDoNotComeBack_62 rfl rfl rfl ?_
        refine am_getRk (ki := 3) (pc' := 66) (k := 3) (ci := 0) rfl dX0_orderThoseThatDoNotComeBack_63 rfl fl_X0_25 (by first | assumption | exact ⟨by omega, by omega, rfl⟩) rfl (by assumption) (by omega) ?_
        refine am_iload_n (pc' := 67) dX0_orderThoseThatDoNotComeBack_66 rfl rfl rfl ?_
        refine am_iaload (pc' := 68) dX0_orderThoseThatDoNotComeBack_67 rfl (by first | assumption | exact ⟨by omega, by omega, rfl⟩) (by omega) (by omega) ?_
        refine am_callVp (pc' := 71) (as := [_]) (ci := 0)  rfl dX0_orderThoseThatDoNotComeBack_68 rfl ok_X0_nextOf ml_X0_115 im_X0_nextOf se_X0_nextOf rfl (Nat.le_of_ble_eq_true rfl) rfl (Nat.le_of_ble_eq_true rfl) (by first | assumption | exact ⟨by omega, by omega, rfl⟩) (t_nextOf (h := h1) hD (by omega) hod.1 (by omega)) ?_
        rw [hnn]
        refine am_istore_n (pc' := 72) (ls' := [_, _, _]) dX0_orderThoseThatDoNotComeBack_71 rfl rfl (Nat.le_of_ble_eq_true rfl) rfl rfl ?_
        refine am_aload_n (pc' := 73) dX0_orderThoseThatDoNotComeBack_72 rfl rfl rfl ?_
        refine am_getRk (ki := 2) (pc' := 76) (k := 2) (ci := 0) rfl dX0_orderThoseThatDoNotComeBack_73 rfl fl_X0_22 (by first | assumption | exact ⟨by omega, by omega, rfl⟩) rfl (by assumption) (by omega) ?_
        refine am_iload_n (pc' := 77) dX0_orderThoseThatDoNotComeBack_76 rfl rfl rfl ?_
        refine am_dup2 (pc' := 78) dX0_orderThoseThatDoNotComeBack_77 rfl ?_
        refine am_iaload (pc' := 79) dX0_orderThoseThatDoNotComeBack_78 rfl (by first | assumption | exact ⟨by omega, by omega, rfl⟩) (by omega) (by omega) ?_
        refine am_iconst (pc' := 80) dX0_orderThoseThatDoNotComeBack_79 rfl rfl ?_
        refine am_isub (pc' := 81) dX0_orderThoseThatDoNotComeBack_80 rfl ⟨by omega, by omega⟩ ?_
        refine am_iastore (pc' := 82) dX0_orderThoseThatDoNotComeBack_81 rfl (by first | assumption | exact ⟨by omega, by omega, rfl⟩) (by omega) (by omega) ?_
        generalize hg2 : am_u h1 (A + 1) (nx (h1 (A + 2) x)) (h1 (A + 1) (nx (h1 (A + 2) x)) - 1) = h2
        have u1 : ∀ c, h2 (A + 1) c = if c = nx (h1 (A + 2) x) then h1 (A + 1) c - 1 else h1 (A + 1) c := fun c => by
          rw [← hg2]
          by_cases z : c = nx (h1 (A + 2) x)
          · rw [z, am_u_s, if_pos rfl]
          · rw [am_u_n (by omega), if_neg z]
        have u3 : h2 (A + 2) = h1 (A + 2) := funext fun k => by rw [← hg2]; exact am_u_n (by omega)
        have u4 : ∀ k, h2 19 k = h1 19 k := fun k => by rw [← hg2]; exact am_u_n (by omega)
        have fr2 : am_fr [19, A + 1, A + 2] h h2 := by rw [← hg2]; exact am_fr_u hf (by simp <;> omega)
        refine am_aload_n (pc' := 83) dX0_orderThoseThatDoNotComeBack_82 rfl rfl rfl ?_
        refine am_getRk (ki := 2) (pc' := 86) (k := 2) (ci := 0) rfl dX0_orderThoseThatDoNotComeBack_83 rfl fl_X0_22 (by first | assumption | exact ⟨by omega, by omega, rfl⟩) rfl (by assumption) (by omega) ?_
        refine am_iload_n (pc' := 87) dX0_orderThoseThatDoNotComeBack_86 rfl rfl rfl ?_
        refine am_iaload (pc' := 88) dX0_orderThoseThatDoNotComeBack_87 rfl (by first | assumption | exact ⟨by omega, by omega, rfl⟩) (by omega) (by omega) ?_
        rw [u1, if_pos rfl]
        refine am_if_ne (pc' := 91) (tgt := 96) dX0_orderThoseThatDoNotComeBack_88 rfl rfl (fun c_88 => ?_) (fun c_88 => ?_)
        · first | exact K96 h2 _ (by omega) fr2 (fun k z0 z1 => by rw [u4]; exact hg k z0 z1) (by rw [u4]; exact hbr) (by rw [u3, u4]; exact pr_stepB hp hin (by omega) (fun c z0 z1 => u1 c) c_88) | exact K96 _ _ (by omega) (am_fr_u (am_fr_u fr2 (by simp <;> omega)) (by simp <;> omega)) (fun k z0 z1 => by rw [am_u_n (by omega), am_u_n (by omega), u4]; exact hg k z0 z1) (by rw [am_u_n (by omega), am_u_n (by omega), u4]; exact hbr) (by rw [am_u_s]; exact pr_stepA (by omega) hp hin (by omega) (fun c z0 z1 => by rw [am_u_n (by omega), am_u_n (by omega)]; exact u1 c) c_88 (fun i z0 z1 => by rw [am_u_n (by omega)]; rw [am_u_if, u3]))
        · have hA9 := pr_stepA (cm' := h2 (A + 1)) (od' := fun i => if i = h1 19 6 then nx (h1 (A + 2) x) else h1 (A + 2) i) (by omega) hp hin (by omega) (fun c z0 z1 => u1 c) c_88 (fun i _ _ => rfl)
          have hb9 := hA9.1
          refine am_aload_n (pc' := 92) dX0_orderThoseThatDoNotComeBack_91 rfl rfl rfl ?_
          refine am_iload_n (pc' := 93) dX0_orderThoseThatDoNotComeBack_92 rfl rfl rfl ?_
          refine am_callV0 (pc' := 96) (as := [_]) (ci := 0)  rfl dX0_orderThoseThatDoNotComeBack_93 rfl ok_X0_takeAway ml_X0_111 im_X0_takeAway se_X0_takeAway rfl (Nat.le_of_ble_eq_true rfl) rfl (Nat.le_of_ble_eq_true rfl) (by first | assumption | exact ⟨by omega, by omega, rfl⟩) (t_takeAway (h := h2) hD (by rw [u4]; omega) (by rw [u4, u4]; omega) (by rw [u4]; omega)) (fun r_93 ρ_93 h_93 q_93 g_93 e_93 => ?_)
          obtain ⟨rfl, rfl, rfl⟩ := q_93
          rw [u4]
          first | exact K96 h2 _ (by omega) fr2 (fun k z0 z1 => by rw [u4]; exact hg k z0 z1) (by rw [u4]; exact hbr) (by rw [u3, u4]; exact pr_stepB hp hin (by omega) (fun c z0 z1 => u1 c) c_88) | exact K96 _ _ (by omega) (am_fr_u (am_fr_u fr2 (by simp <;> omega)) (by simp <;> omega)) (fun k z0 z1 => by rw [am_u_n (by omega), am_u_n (by omega), u4]; exact hg k z0 z1) (by rw [am_u_n (by omega), am_u_n (by omega), u4]; exact hbr) (by rw [am_u_s]; exact pr_stepA (by omega) hp hin (by omega) (fun c z0 z1 => by rw [am_u_n (by omega), am_u_n (by omega)]; exact u1 c) c_88 (fun i z0 z1 => by rw [am_u_n (by omega)]; rw [am_u_if, u3]))
theorem t_order {ρ h : am_H} {A L : Int} {nx : Int → Int} (hC : am_LC ρ) (hD : am_DA ρ A L) (hN : 0 < h 19 7 ∧ h 19 7 ≤ L) (hin : gr_in nx (h 19 7)) (hnx : ∀ c, 0 ≤ c → c < h 19 7 → h A c = nx c) (hcm : ∀ c, 0 ≤ c → c < h 19 7 → h (A + 1) c = mt_sum (fun d => if nx d = c then 1 else 0) (h 19 7).toNat) :
    am_CT mX0_orderThoseThatDoNotComeBack 0 0 [am_R 19] ρ h (fun v ρ' h1 => v = none ∧ ρ' = ρ ∧ am_fr [19, A + 1, A + 2] h h1 ∧ (∀ k, k ≠ 6 → k ≠ 9 → h1 19 k = h 19 k) ∧ h1 19 9 = mt_sum (fun c => if mt_sum (fun d => if nx d = c then 1 else 0) (h 19 7).toNat = 0 then 1 else 0) (h 19 7).toNat ∧ pr_I nx (h 19 7) (h1 (A + 1)) (h1 (A + 2)) (h1 19 6) (h1 19 6)) := by
  obtain ⟨k0, k1, k2, k3, k4, k5, ⟨e1, e2, e3, e4, e5⟩, ⟨l1, l2, l3, l4, l5⟩, hA, hL0, hL7⟩ := am_DAx hD
  have hn58 := hC.1
  refine am_ct (ls := [some (am_R 19), none, none]) ok_X0_orderThoseThatDoNotComeBack rfl (fun _ => Nat.le_of_ble_eq_true rfl) (fun _ => rfl) (by intro v hv; simpa using hv) ?_
  have K35 : ∀ h1 v, am_fr [19, A + 2] h h1 → (∀ k, k ≠ 6 → h1 19 k = h 19 k) → pr_0 (h 19 7) (h (A + 1)) (h1 (A + 2)) (h1 19 6) (h 19 7) → am_WP mX0_orderThoseThatDoNotComeBack 0 0 35 [some (am_R 19), some (am_I (h 19 7)), v] [] ρ h1 (fun v ρ' h1 => v = none ∧ ρ' = ρ ∧ am_fr [19, A + 1, A + 2] h h1 ∧ (∀ k, k ≠ 6 → k ≠ 9 → h1 19 k = h 19 k) ∧ h1 19 9 = mt_sum (fun c => if mt_sum (fun d => if nx d = c then 1 else 0) (h 19 7).toNat = 0 then 1 else 0) (h 19 7).toNat ∧ pr_I nx (h 19 7) (h1 (A + 1)) (h1 (A + 2)) (h1 19 6) (h1 19 6)) := by
    intro h1 v hf hg hp
    have hb : h1 19 6 = mt_sum (fun c => if mt_sum (fun d => if nx d = c then 1 else 0) (h 19 7).toNat = 0 then 1 else 0) (h 19 7).toNat := by
      rw [hp.2.2.2.2]
      exact mt_sum_eq (fun c z0 z1 => by rw [hcm c z0 (by omega)])
    refine am_aload_n (pc' := 36) dX0_orderThoseThatDoNotComeBack_35 rfl rfl rfl ?_
    refine am_aload_n (pc' := 37) dX0_orderThoseThatDoNotComeBack_36 rfl rfl rfl ?_
    refine am_getIk (ki := 6) (pc' := 40) (k := 6) (ci := 0) rfl dX0_orderThoseThatDoNotComeBack_37 rfl fl_X0_34 (by first | assumption | exact ⟨by omega, by omega, rfl⟩) rfl ?_
    refine am_putIk (ki := 9) (pc' := 43) (k := 9) (ci := 0) rfl dX0_orderThoseThatDoNotComeBack_40 rfl fl_X0_44 (by first | assumption | exact ⟨by omega, by omega, rfl⟩) rfl (fun _ _ _ e => by cases e; rfl) ?_
    refine am_iconst (pc' := 44) dX0_orderThoseThatDoNotComeBack_43 rfl rfl ?_
    refine am_istore_n (pc' := 45) (ls' := [_, _, _]) dX0_orderThoseThatDoNotComeBack_44 rfl rfl (Nat.le_of_ble_eq_true rfl) rfl rfl ?_
    refine t_order_2 hC hD hN hin hnx (fun h1 a b c d => ⟨rfl, rfl, a, b, c, d⟩) ((h 19 7).toNat + 1) 0 _ _ (by omega) (by omega) (am_fr_u (am_fr_sub hf (by intro x hx; simp at hx ⊢; omega)) (by simp <;> omega)) (fun k z0 z1 => by rw [am_u_n (by omega)]; exact hg k z0) (by rw [am_u_s]; exact hb) ?_
    rw [am_u_n (by omega), show am_u h1 19 9 (h1 19 6) (A + 1) = h (A + 1) from funext fun k => by rw [am_u_n (by omega)]; exact hf (A + 1) k (by simp <;> omega), show am_u h1 19 9 (h1 19 6) (A + 2) = h1 (A + 2) from funext fun k => am_u_n (by omega)]
    exact pr_0_end hp hcm
  refine am_aload_n (pc' := 1) dX0_orderThoseThatDoNotComeBack_0 rfl rfl rfl ?_
  refine am_iconst (pc' := 2) dX0_orderThoseThatDoNotComeBack_1 rfl rfl ?_
  refine am_putIk (ki := 6) (pc' := 5) (k := 6) (ci := 0) rfl dX0_orderThoseThatDoNotComeBack_2 rfl fl_X0_34 (by first | assumption | exact ⟨by omega, by omega, rfl⟩) rfl (fun _ _ _ e => by cases e; rfl) ?_
  refine am_iconst (pc' := 6) dX0_orderThoseThatDoNotComeBack_5 rfl rfl ?_
  refine am_istore_n (pc' := 7) (ls' := [_, _, _]) dX0_orderThoseThatDoNotComeBack_6 rfl rfl (Nat.le_of_ble_eq_true rfl) rfl rfl ?_
  refine t_order_1 hC hD hN K35 ((h 19 7).toNat + 1) 0 _ _ (by omega) (by omega) (by omega) (am_fr_u am_fr_refl (by simp <;> omega)) (fun k z => am_u_n (by omega)) ?_
  rw [am_u_s]
  exact pr_0_init (by omega)
