theorem am_u_if {h : am_H} {x k v i : Int} : am_u h x k v x i = if i = k then v else h x i := by
  unfold am_u
  by_cases z : i = k
  · rw [if_pos ⟨rfl, z⟩, if_pos z]
  · rw [if_neg (fun y => z y.2), if_neg z]
/-- the count, kept while other fields are written -/
theorem t_order_1 {ρ h : am_H} {A L : Int} {Q : am_Q} (hC : am_LC ρ) (hD : am_DA ρ A L) (hN : 0 < h 19 7 ∧ h 19 7 ≤ L)
    (K : ∀ h1 v, am_fr [19, A + 2] h h1 → (∀ k, k ≠ 6 → h1 19 k = h 19 k) → pr_0 (h 19 7) (h (A + 1)) (h1 (A + 2)) (h1 19 6) (h 19 7) → am_WP mX0_orderThoseThatDoNotComeBack 0 0 50 [some (am_R 19), some (am_I (h 19 7)), v] [] ρ h1 Q) :
    ∀ (n : Nat) (row : Int) (h1 : am_H) (v : Option am_V), (h 19 7 - row).toNat < n → 0 ≤ row → row ≤ h 19 7 → am_fr [19, A + 2] h h1 → (∀ k, k ≠ 6 → h1 19 k = h 19 k) → pr_0 (h 19 7) (h (A + 1)) (h1 (A + 2)) (h1 19 6) row → am_WP mX0_orderThoseThatDoNotComeBack 0 0 7 [some (am_R 19), some (am_I row), v] [] ρ h1 Q := by
  obtain ⟨k0, k1, k2, k3, k4, k5, ⟨e1, e2, e3, e4, e5⟩, ⟨l1, l2, l3, l4, l5⟩, hA, hL0, hL7⟩ := am_DAx hD
  have hn58 := hC.1
  intro n
  induction n with
  | zero => intro row h1 v hk; omega
  | succ n ih =>
    intro row h1 v hk h0 h9 hf hg hp
    have g3 : h1 19 7 = h 19 7 := hg 7 (by decide)
    have g4 : h1 (A + 1) = h (A + 1) := funext fun k => hf (A + 1) k (by simp <;> omega)
    have hb := hp.1
    refine am_iload_n (pc' := 8) dX0_orderThoseThatDoNotComeBack_7 rfl rfl rfl ?_
    refine am_aload_n (pc' := 9) dX0_orderThoseThatDoNotComeBack_8 rfl rfl rfl ?_
    refine am_getIk (ki := 7) (pc' := 12) (k := 7) (ci := 0) rfl dX0_orderThoseThatDoNotComeBack_9 rfl fl_X0_38 (by first | assumption | exact ⟨by omega, by omega, rfl⟩) rfl ?_
    refine am_icmp_ge (pc' := 15) (tgt := 50) dX0_orderThoseThatDoNotComeBack_12 rfl rfl (fun c_12 => ?_) (fun c_12 => ?_)
    · have e9 : row = h 19 7 := by omega
      subst e9
      exact K h1 _ hf hg hp
    · refine am_aload_n (pc' := 16) dX0_orderThoseThatDoNotComeBack_15 rfl rfl rfl ?_
      refine am_getRk (ki := 2) (pc' := 19) (k := 2) (ci := 0) rfl dX0_orderThoseThatDoNotComeBack_16 rfl fl_X0_22 (by first | assumption | exact ⟨by omega, by omega, rfl⟩) rfl (by assumption) (by omega) ?_
      refine am_iload_n (pc' := 20) dX0_orderThoseThatDoNotComeBack_19 rfl rfl rfl ?_
      refine am_iaload (pc' := 21) dX0_orderThoseThatDoNotComeBack_20 rfl (by first | assumption | exact ⟨by omega, by omega, rfl⟩) (by omega) (by omega) ?_
      refine am_if_ne (pc' := 24) (tgt := 44) dX0_orderThoseThatDoNotComeBack_21 rfl rfl (fun c_21 => ?_) (fun c_21 => ?_)
      · refine am_iinc (pc' := 47) (ls' := [_, _, _]) dX0_orderThoseThatDoNotComeBack_44 rfl rfl ⟨by omega, by omega⟩ (Nat.le_of_ble_eq_true rfl) rfl rfl ?_
        refine am_goto (pc' := 7) dX0_orderThoseThatDoNotComeBack_47 rfl ?_
        first | (refine ih _ _ _ (by omega) (by omega) (by omega) hf hg (pr_0_B hp (by omega) (by rw [← g4]; exact c_21)); done) | (refine ih _ _ _ (by omega) (by omega) (by omega) (am_fr_u (am_fr_u hf (by simp <;> omega)) (by simp <;> omega)) (fun k hk => by rw [am_u_n (by omega), am_u_n (by omega)]; exact hg k hk) ?_; rw [am_u_s]; refine pr_0_A hp (by omega) hcz (fun i z0 z1 => ?_); rw [am_u_n (by omega)]; rw [am_u_if])
      · have hcz : h (A + 1) row = 0 := by rw [← g4]; exact c_21
        refine am_aload_n (pc' := 25) dX0_orderThoseThatDoNotComeBack_24 rfl rfl rfl ?_
        refine am_getRk (ki := 3) (pc' := 28) (k := 3) (ci := 0) rfl dX0_orderThoseThatDoNotComeBack_25 rfl fl_X0_25 (by first | assumption | exact ⟨by omega, by omega, rfl⟩) rfl (by assumption) (by omega) ?_
        refine am_aload_n (pc' := 29) dX0_orderThoseThatDoNotComeBack_28 rfl rfl rfl ?_
        refine am_getIk (ki := 6) (pc' := 32) (k := 6) (ci := 0) rfl dX0_orderThoseThatDoNotComeBack_29 rfl fl_X0_34 (by first | assumption | exact ⟨by omega, by omega, rfl⟩) rfl ?_
        refine am_iload_n (pc' := 33) dX0_orderThoseThatDoNotComeBack_32 rfl rfl rfl ?_
        refine am_iastore (pc' := 34) dX0_orderThoseThatDoNotComeBack_33 rfl (by first | assumption | exact ⟨by omega, by omega, rfl⟩) (by omega) (by omega) ?_
        refine am_aload_n (pc' := 35) dX0_orderThoseThatDoNotComeBack_34 rfl rfl rfl ?_
        first | refine am_dupR (pc' := 36) dX0_orderThoseThatDoNotComeBack_35 rfl ?_ | refine am_dupI (pc' := 36) dX0_orderThoseThatDoNotComeBack_35 rfl ?_
        refine am_getIk (ki := 6) (pc' := 39) (k := 6) (ci := 0) rfl dX0_orderThoseThatDoNotComeBack_36 rfl fl_X0_34 (by first | assumption | exact ⟨by omega, by omega, rfl⟩) rfl ?_
        refine am_iconst (pc' := 40) dX0_orderThoseThatDoNotComeBack_39 rfl rfl ?_
        rw [am_u_n (by omega)]
        refine am_iadd (pc' := 41) dX0_orderThoseThatDoNotComeBack_40 rfl ⟨by omega, by omega⟩ ?_
        refine am_putIk (ki := 6) (pc' := 44) (k := 6) (ci := 0) rfl dX0_orderThoseThatDoNotComeBack_41 rfl fl_X0_34 (by first | assumption | exact ⟨by omega, by omega, rfl⟩) rfl (fun _ _ _ e => by cases e; rfl) ?_
        refine am_iinc (pc' := 47) (ls' := [_, _, _]) dX0_orderThoseThatDoNotComeBack_44 rfl rfl ⟨by omega, by omega⟩ (Nat.le_of_ble_eq_true rfl) rfl rfl ?_
        refine am_goto (pc' := 7) dX0_orderThoseThatDoNotComeBack_47 rfl ?_
        first | (refine ih _ _ _ (by omega) (by omega) (by omega) hf hg (pr_0_B hp (by omega) (by rw [← g4]; exact c_21)); done) | (refine ih _ _ _ (by omega) (by omega) (by omega) (am_fr_u (am_fr_u hf (by simp <;> omega)) (by simp <;> omega)) (fun k hk => by rw [am_u_n (by omega), am_u_n (by omega)]; exact hg k hk) ?_; rw [am_u_s]; refine pr_0_A hp (by omega) hcz (fun i z0 z1 => ?_); rw [am_u_n (by omega)]; rw [am_u_if])
theorem t_order_2 {ρ h : am_H} {A L b : Int} {nx : Int → Int} {Q : am_Q} (hC : am_LC ρ) (hD : am_DA ρ A L) (hN : 0 < h 19 7 ∧ h 19 7 ≤ L) (hin : gr_in nx (h 19 7)) (hnx : ∀ c, 0 ≤ c → c < h 19 7 → h A c = nx c)
    (hq : ∀ h1, am_fr [19, A + 1, A + 2] h h1 → (∀ k, k ≠ 6 → k ≠ 9 → h1 19 k = h 19 k) → h1 19 9 = b → pr_I nx (h 19 7) (h1 (A + 1)) (h1 (A + 2)) (h1 19 6) (h1 19 6) → Q none ρ h1) :
    ∀ (n : Nat) (x : Int) (h1 : am_H) (v : Option am_V), (h 19 7 - x).toNat < n → 0 ≤ x → am_fr [19, A + 1, A + 2] h h1 → (∀ k, k ≠ 6 → k ≠ 9 → h1 19 k = h 19 k) → h1 19 9 = b → pr_I nx (h 19 7) (h1 (A + 1)) (h1 (A + 2)) (h1 19 6) x → am_WP mX0_orderThoseThatDoNotComeBack 0 0 60 [some (am_R 19), some (am_I x), v] [] ρ h1 Q := by
  obtain ⟨k0, k1, k2, k3, k4, k5, ⟨e1, e2, e3, e4, e5⟩, ⟨l1, l2, l3, l4, l5⟩, hA, hL0, hL7⟩ := am_DAx hD
  have hn58 := hC.1
  intro n
  induction n with
  | zero =>
    intro x h1 v hk h0 hf hg hb hp
    omega
  | succ n ih =>
    intro x h1 v hk h0 hf hg hbr hp
    have g3 : h1 19 7 = h 19 7 := hg 7 (by decide) (by decide)
    have g4 : h1 A = h A := funext fun k => hf A k (by simp <;> omega)
    have hb := hp.1
    have K127 : ∀ (h2 : am_H) (w : Option am_V), x < h 19 7 → am_fr [19, A + 1, A + 2] h h2 → (∀ k, k ≠ 6 → k ≠ 9 → h2 19 k = h 19 k) → h2 19 9 = b → pr_I nx (h 19 7) (h2 (A + 1)) (h2 (A + 2)) (h2 19 6) (x + 1) → am_WP mX0_orderThoseThatDoNotComeBack 0 0 127 [some (am_R 19), some (am_I x), w] [] ρ h2 Q := by
      intro h2 w hxn a b d e
      refine am_iinc (pc' := 130) (ls' := [_, _, _]) dX0_orderThoseThatDoNotComeBack_127 rfl rfl ⟨by omega, by omega⟩ (Nat.le_of_ble_eq_true rfl) rfl rfl ?_
      refine am_goto (pc' := 60) dX0_orderThoseThatDoNotComeBack_130 rfl ?_
      exact ih _ _ _ (by omega) (by omega) a b d e
    refine am_iload_n (pc' := 61) dX0_orderThoseThatDoNotComeBack_60 rfl rfl rfl ?_
    refine am_aload_n (pc' := 62) dX0_orderThoseThatDoNotComeBack_61 rfl rfl rfl ?_
    refine am_getIk (ki := 6) (pc' := 65) (k := 6) (ci := 0) rfl dX0_orderThoseThatDoNotComeBack_62 rfl fl_X0_34 (by first | assumption | exact ⟨by omega, by omega, rfl⟩) rfl ?_
    refine am_icmp_ge (pc' := 68) (tgt := 133) dX0_orderThoseThatDoNotComeBack_65 rfl rfl (fun c_65 => ?_) (fun c_65 => ?_)
    · refine am_retv dX0_orderThoseThatDoNotComeBack_133 rfl ?_
      have e9 : x = h1 19 6 := by omega
      subst e9; exact hq h1 hf hg hbr hp
    · refine am_iload_n (pc' := 69) dX0_orderThoseThatDoNotComeBack_68 rfl rfl rfl ?_
      refine am_aload_n (pc' := 70) dX0_orderThoseThatDoNotComeBack_69 rfl rfl rfl ?_
      refine am_getIk (ki := 7) (pc' := 73) (k := 7) (ci := 0) rfl dX0_orderThoseThatDoNotComeBack_70 rfl fl_X0_38 (by first | assumption | exact ⟨by omega, by omega, rfl⟩) rfl ?_
      refine am_icmp_ge (pc' := 76) (tgt := 133) dX0_orderThoseThatDoNotComeBack_73 rfl rfl (fun c_73 => ?_) (fun c_73 => ?_)
      · refine am_retv dX0_orderThoseThatDoNotComeBack_133 rfl ?_
        have e9 : x = h1 19 6 := by omega
        subst e9; exact hq h1 hf hg hbr hp
      · have hod := hp.2.1 x h0 (by omega)
        have hto := hin _ hod.1 hod.2
        have hcmb := pr_pos hp hin (by omega)
        have hnn : h1 A (h1 (A + 2) x) = nx (h1 (A + 2) x) := by rw [g4]; exact hnx _ hod.1 hod.2
        have hcle : h1 (A + 1) (nx (h1 (A + 2) x)) ≤ h 19 7 := by rw [hp.2.2.2.1 _ hto.1 hto.2]; have := mt_sum_nn (f := fun d => mt_ch (nx d = nx (h1 (A + 2) x) ∧ ¬ pr_pc (h1 (A + 2)) x d)) (M := 1) (n := (h 19 7).toNat) (fun p _ _ => mt_ch_in _); unfold pr_cm; omega
        refine am_aload_n (pc' := 77) dX0_orderThoseThatDoNotComeBack_76 rfl rfl rfl ?_
        refine am_getRk (ki := 1) (pc' := 80) (k := 1) (ci := 0) rfl dX0_orderThoseThatDoNotComeBack_77 rfl fl_X0_18 (by first | assumption | exact ⟨by omega, by omega, rfl⟩) rfl (by assumption) (by omega) ?_
        refine am_aload_n (pc' := 81) dX0_orderThoseThatDoNotComeBack_80 rfl rfl rfl ?_
        refine am_getRk (ki := 3) (pc' := 84) (k := 3) (ci := 0) rfl dX0_orderThoseThatDoNotComeBack_81 rfl fl_X0_25 (by first | assumption | exact ⟨by omega, by omega, rfl⟩) rfl (by assumption) (by omega) ?_
        refine am_iload_n (pc' := 85) dX0_orderThoseThatDoNotComeBack_84 rfl rfl rfl ?_
        refine am_iaload (pc' := 86) dX0_orderThoseThatDoNotComeBack_85 rfl (by first | assumption | exact ⟨by omega, by omega, rfl⟩) (by omega) (by omega) ?_
        refine am_iaload (pc' := 87) dX0_orderThoseThatDoNotComeBack_86 rfl (by first | assumption | exact ⟨by omega, by omega, rfl⟩) (by omega) (by omega) ?_
        rw [hnn]
        refine am_istore_n (pc' := 88) (ls' := [_, _, _]) dX0_orderThoseThatDoNotComeBack_87 rfl rfl (Nat.le_of_ble_eq_true rfl) rfl rfl ?_
        refine am_aload_n (pc' := 89) dX0_orderThoseThatDoNotComeBack_88 rfl rfl rfl ?_
        refine am_getRk (ki := 2) (pc' := 92) (k := 2) (ci := 0) rfl dX0_orderThoseThatDoNotComeBack_89 rfl fl_X0_22 (by first | assumption | exact ⟨by omega, by omega, rfl⟩) rfl (by assumption) (by omega) ?_
        refine am_iload_n (pc' := 93) dX0_orderThoseThatDoNotComeBack_92 rfl rfl rfl ?_
        refine am_dup2 (pc' := 94) dX0_orderThoseThatDoNotComeBack_93 rfl ?_
        refine am_iaload (pc' := 95) dX0_orderThoseThatDoNotComeBack_94 rfl (by first | assumption | exact ⟨by omega, by omega, rfl⟩) (by omega) (by omega) ?_
        refine am_iconst (pc' := 96) dX0_orderThoseThatDoNotComeBack_95 rfl rfl ?_
        refine am_isub (pc' := 97) dX0_orderThoseThatDoNotComeBack_96 rfl ⟨by omega, by omega⟩ ?_
        refine am_iastore (pc' := 98) dX0_orderThoseThatDoNotComeBack_97 rfl (by first | assumption | exact ⟨by omega, by omega, rfl⟩) (by omega) (by omega) ?_
        generalize hg2 : am_u h1 (A + 1) (nx (h1 (A + 2) x)) (h1 (A + 1) (nx (h1 (A + 2) x)) - 1) = h2
        have u1 : ∀ c, h2 (A + 1) c = if c = nx (h1 (A + 2) x) then h1 (A + 1) c - 1 else h1 (A + 1) c := fun c => by
          rw [← hg2]
          by_cases z : c = nx (h1 (A + 2) x)
          · rw [z, am_u_s, if_pos rfl]
          · rw [am_u_n (by omega), if_neg z]
        have u3 : h2 (A + 2) = h1 (A + 2) := funext fun k => by rw [← hg2]; exact am_u_n (by omega)
        have u4 : ∀ k, h2 19 k = h1 19 k := fun k => by rw [← hg2]; exact am_u_n (by omega)
        have fr2 : am_fr [19, A + 1, A + 2] h h2 := by rw [← hg2]; exact am_fr_u hf (by simp <;> omega)
        refine am_aload_n (pc' := 99) dX0_orderThoseThatDoNotComeBack_98 rfl rfl rfl ?_
        refine am_getRk (ki := 2) (pc' := 102) (k := 2) (ci := 0) rfl dX0_orderThoseThatDoNotComeBack_99 rfl fl_X0_22 (by first | assumption | exact ⟨by omega, by omega, rfl⟩) rfl (by assumption) (by omega) ?_
        refine am_iload_n (pc' := 103) dX0_orderThoseThatDoNotComeBack_102 rfl rfl rfl ?_
        refine am_iaload (pc' := 104) dX0_orderThoseThatDoNotComeBack_103 rfl (by first | assumption | exact ⟨by omega, by omega, rfl⟩) (by omega) (by omega) ?_
        rw [u1, if_pos rfl]
        refine am_if_ne (pc' := 107) (tgt := 127) dX0_orderThoseThatDoNotComeBack_104 rfl rfl (fun c_104 => ?_) (fun c_104 => ?_)
        · first | exact K127 h2 _ (by omega) fr2 (fun k z0 z1 => by rw [u4]; exact hg k z0 z1) (by rw [u4]; exact hbr) (by rw [u3, u4]; exact pr_stepB hp hin (by omega) (fun c z0 z1 => u1 c) c_104) | exact K127 _ _ (by omega) (am_fr_u (am_fr_u fr2 (by simp <;> omega)) (by simp <;> omega)) (fun k z0 z1 => by rw [am_u_n (by omega), am_u_n (by omega), u4]; exact hg k z0 z1) (by rw [am_u_n (by omega), am_u_n (by omega), u4]; exact hbr) (by rw [am_u_s]; exact pr_stepA (by omega) hp hin (by omega) (fun c z0 z1 => by rw [am_u_n (by omega), am_u_n (by omega)]; exact u1 c) c_104 (fun i z0 z1 => by rw [am_u_n (by omega)]; rw [am_u_if, u3]))
        · have hA9 := pr_stepA (cm' := h2 (A + 1)) (od' := fun i => if i = h1 19 6 then nx (h1 (A + 2) x) else h1 (A + 2) i) (by omega) hp hin (by omega) (fun c z0 z1 => u1 c) c_104 (fun i _ _ => rfl)
          have hb9 := hA9.1
          refine am_aload_n (pc' := 108) dX0_orderThoseThatDoNotComeBack_107 rfl rfl rfl ?_
          refine am_getRk (ki := 3) (pc' := 111) (k := 3) (ci := 0) rfl dX0_orderThoseThatDoNotComeBack_108 rfl fl_X0_25 (by first | assumption | exact ⟨by omega, by omega, rfl⟩) rfl (by assumption) (by omega) ?_
          refine am_aload_n (pc' := 112) dX0_orderThoseThatDoNotComeBack_111 rfl rfl rfl ?_
          refine am_getIk (ki := 6) (pc' := 115) (k := 6) (ci := 0) rfl dX0_orderThoseThatDoNotComeBack_112 rfl fl_X0_34 (by first | assumption | exact ⟨by omega, by omega, rfl⟩) rfl ?_
          rw [u4]
          refine am_iload_n (pc' := 116) dX0_orderThoseThatDoNotComeBack_115 rfl rfl rfl ?_
          refine am_iastore (pc' := 117) dX0_orderThoseThatDoNotComeBack_116 rfl (by first | assumption | exact ⟨by omega, by omega, rfl⟩) (by omega) (by omega) ?_
          refine am_aload_n (pc' := 118) dX0_orderThoseThatDoNotComeBack_117 rfl rfl rfl ?_
          first | refine am_dupR (pc' := 119) dX0_orderThoseThatDoNotComeBack_118 rfl ?_ | refine am_dupI (pc' := 119) dX0_orderThoseThatDoNotComeBack_118 rfl ?_
          refine am_getIk (ki := 6) (pc' := 122) (k := 6) (ci := 0) rfl dX0_orderThoseThatDoNotComeBack_119 rfl fl_X0_34 (by first | assumption | exact ⟨by omega, by omega, rfl⟩) rfl ?_
          rw [am_u_n (by omega), u4]
          refine am_iconst (pc' := 123) dX0_orderThoseThatDoNotComeBack_122 rfl rfl ?_
          refine am_iadd (pc' := 124) dX0_orderThoseThatDoNotComeBack_123 rfl ⟨by omega, by omega⟩ ?_
          refine am_putIk (ki := 6) (pc' := 127) (k := 6) (ci := 0) rfl dX0_orderThoseThatDoNotComeBack_124 rfl fl_X0_34 (by first | assumption | exact ⟨by omega, by omega, rfl⟩) rfl (fun _ _ _ e => by cases e; rfl) ?_
          first | exact K127 h2 _ (by omega) fr2 (fun k z0 z1 => by rw [u4]; exact hg k z0 z1) (by rw [u4]; exact hbr) (by rw [u3, u4]; exact pr_stepB hp hin (by omega) (fun c z0 z1 => u1 c) c_104) | exact K127 _ _ (by omega) (am_fr_u (am_fr_u fr2 (by simp <;> omega)) (by simp <;> omega)) (fun k z0 z1 => by rw [am_u_n (by omega), am_u_n (by omega), u4]; exact hg k z0 z1) (by rw [am_u_n (by omega), am_u_n (by omega), u4]; exact hbr) (by rw [am_u_s]; exact pr_stepA (by omega) hp hin (by omega) (fun c z0 z1 => by rw [am_u_n (by omega), am_u_n (by omega)]; exact u1 c) c_104 (fun i z0 z1 => by rw [am_u_n (by omega)]; rw [am_u_if, u3]))
theorem t_order {ρ h : am_H} {A L : Int} {nx : Int → Int} (hC : am_LC ρ) (hD : am_DA ρ A L) (hN : 0 < h 19 7 ∧ h 19 7 ≤ L) (hin : gr_in nx (h 19 7)) (hnx : ∀ c, 0 ≤ c → c < h 19 7 → h A c = nx c) (hcm : ∀ c, 0 ≤ c → c < h 19 7 → h (A + 1) c = mt_sum (fun d => if nx d = c then 1 else 0) (h 19 7).toNat) :
    am_CT mX0_orderThoseThatDoNotComeBack 0 0 [am_R 19] ρ h (fun v ρ' h1 => v = none ∧ ρ' = ρ ∧ am_fr [19, A + 1, A + 2] h h1 ∧ (∀ k, k ≠ 6 → k ≠ 9 → h1 19 k = h 19 k) ∧ h1 19 9 = mt_sum (fun c => if mt_sum (fun d => if nx d = c then 1 else 0) (h 19 7).toNat = 0 then 1 else 0) (h 19 7).toNat ∧ pr_I nx (h 19 7) (h1 (A + 1)) (h1 (A + 2)) (h1 19 6) (h1 19 6)) := by
  obtain ⟨k0, k1, k2, k3, k4, k5, ⟨e1, e2, e3, e4, e5⟩, ⟨l1, l2, l3, l4, l5⟩, hA, hL0, hL7⟩ := am_DAx hD
  have hn58 := hC.1
  refine am_ct (ls := [some (am_R 19), none, none]) ok_X0_orderThoseThatDoNotComeBack rfl (fun _ => Nat.le_of_ble_eq_true rfl) (fun _ => rfl) (by intro v hv; simpa using hv) ?_
  have K50 : ∀ h1 v, am_fr [19, A + 2] h h1 → (∀ k, k ≠ 6 → h1 19 k = h 19 k) → pr_0 (h 19 7) (h (A + 1)) (h1 (A + 2)) (h1 19 6) (h 19 7) → am_WP mX0_orderThoseThatDoNotComeBack 0 0 50 [some (am_R 19), some (am_I (h 19 7)), v] [] ρ h1 (fun v ρ' h1 => v = none ∧ ρ' = ρ ∧ am_fr [19, A + 1, A + 2] h h1 ∧ (∀ k, k ≠ 6 → k ≠ 9 → h1 19 k = h 19 k) ∧ h1 19 9 = mt_sum (fun c => if mt_sum (fun d => if nx d = c then 1 else 0) (h 19 7).toNat = 0 then 1 else 0) (h 19 7).toNat ∧ pr_I nx (h 19 7) (h1 (A + 1)) (h1 (A + 2)) (h1 19 6) (h1 19 6)) := by
    intro h1 v hf hg hp
    have hb : h1 19 6 = mt_sum (fun c => if mt_sum (fun d => if nx d = c then 1 else 0) (h 19 7).toNat = 0 then 1 else 0) (h 19 7).toNat := by
      rw [hp.2.2.2.2]
      exact mt_sum_eq (fun c z0 z1 => by rw [hcm c z0 (by omega)])
    refine am_aload_n (pc' := 51) dX0_orderThoseThatDoNotComeBack_50 rfl rfl rfl ?_
    refine am_aload_n (pc' := 52) dX0_orderThoseThatDoNotComeBack_51 rfl rfl rfl ?_
    refine am_getIk (ki := 6) (pc' := 55) (k := 6) (ci := 0) rfl dX0_orderThoseThatDoNotComeBack_52 rfl fl_X0_34 (by first | assumption | exact ⟨by omega, by omega, rfl⟩) rfl ?_
    refine am_putIk (ki := 9) (pc' := 58) (k := 9) (ci := 0) rfl dX0_orderThoseThatDoNotComeBack_55 rfl fl_X0_44 (by first | assumption | exact ⟨by omega, by omega, rfl⟩) rfl (fun _ _ _ e => by cases e; rfl) ?_
    refine am_iconst (pc' := 59) dX0_orderThoseThatDoNotComeBack_58 rfl rfl ?_
    refine am_istore_n (pc' := 60) (ls' := [_, _, _]) dX0_orderThoseThatDoNotComeBack_59 rfl rfl (Nat.le_of_ble_eq_true rfl) rfl rfl ?_
    refine t_order_2 hC hD hN hin hnx (fun h1 a b c d => ⟨rfl, rfl, a, b, c, d⟩) ((h 19 7).toNat + 1) 0 _ _ (by omega) (by omega) (am_fr_u (am_fr_sub hf (by intro x hx; simp at hx ⊢; omega)) (by simp <;> omega)) (fun k z0 z1 => by rw [am_u_n (by omega)]; exact hg k z0) (by rw [am_u_s]; exact hb) ?_
    rw [am_u_n (by omega), show am_u h1 19 9 (h1 19 6) (A + 1) = h (A + 1) from funext fun k => by rw [am_u_n (by omega)]; exact hf (A + 1) k (by simp <;> omega), show am_u h1 19 9 (h1 19 6) (A + 2) = h1 (A + 2) from funext fun k => am_u_n (by omega)]
    exact pr_0_end hp hcm
  refine am_aload_n (pc' := 1) dX0_orderThoseThatDoNotComeBack_0 rfl rfl rfl ?_
  refine am_iconst (pc' := 2) dX0_orderThoseThatDoNotComeBack_1 rfl rfl ?_
  refine am_putIk (ki := 6) (pc' := 5) (k := 6) (ci := 0) rfl dX0_orderThoseThatDoNotComeBack_2 rfl fl_X0_34 (by first | assumption | exact ⟨by omega, by omega, rfl⟩) rfl (fun _ _ _ e => by cases e; rfl) ?_
  refine am_iconst (pc' := 6) dX0_orderThoseThatDoNotComeBack_5 rfl rfl ?_
  refine am_istore_n (pc' := 7) (ls' := [_, _, _]) dX0_orderThoseThatDoNotComeBack_6 rfl rfl (Nat.le_of_ble_eq_true rfl) rfl rfl ?_
  refine t_order_1 hC hD hN K50 ((h 19 7).toNat + 1) 0 _ _ (by omega) (by omega) (by omega) (am_fr_u am_fr_refl (by simp <;> omega)) (fun k z => am_u_n (by omega)) ?_
  rw [am_u_s]
  exact pr_0_init (by omega)
