theorem dy_act_in {f s : Int} (h : dy_act f s = true) : 0 ≤ f ∧ f ≤ 99 ∧ 0 ≤ s ∧ (s < 5 ∨ s = 9) := by
  unfold dy_act at h
  split at h
  · simp only [decide_eq_true_eq] at h; omega
  · simp only [decide_eq_true_eq] at h; omega
theorem t_play_l {ρ h : am_H} {r x i n : Int} {Q : am_Q} (hn58 : 58 ≤ ρ 0 0) (hR : am_RA ρ r) (hr : r + 3 < 37) (hO : am_RO h r) (hS : am_SA ρ x) (hSO : am_SO h x) (hne : x + 1 < r) (hi : 0 ≤ i ∧ i ≤ 60) (hn : 0 ≤ n ∧ n ≤ 20) (c : Int → Int) (hc : c = fun k => sh_at h x (i + k)) (hact : ∀ a, 0 ≤ a → a < n → dy_act (c (2 * a)) (c (2 * a + 1)) = true)
    (hq0 : ∀ h1 w, am_fr [r + 2, r + 3, 37] h h1 → h1 37 0 = w → 0 ≤ w → w < n → dy_can (h r 1) (h r 0) (c (2 * w)) (c (2 * w + 1)) = false → (∀ q, 0 ≤ q → q < w → dy_can (h r 1) (h r 0) (c (2 * q)) (c (2 * q + 1)) = true) → Q none ρ h1)
    (hq1 : ∀ h1, am_fr [r + 2, r + 3, 37] h h1 → h1 37 0 = -9 → (∀ q, 0 ≤ q → q < n → dy_can (h r 1) (h r 0) (c (2 * q)) (c (2 * q + 1)) = true) → mt_eq (h r 1) (h1 (r + 2)) (dy_f (h r 1) (h r 0) (h (r + 1)) c (h (r + 2)) n.toNat) → h1 37 1 = dy_s c n.toNat → h1 37 2 = dy_o (h r 1) (h r 0) (h (r + 1)) c (h (r + 2)) n.toNat → Q none ρ h1) :
    ∀ (k : Nat) (a : Int) (h1 : am_H), (n - a).toNat < k → 0 ≤ a → a ≤ n → am_fr [r + 2, r + 3, 37] h h1 → h1 37 0 = -9 → (∀ q, 0 ≤ q → q < a → dy_can (h r 1) (h r 0) (c (2 * q)) (c (2 * q + 1)) = true) → mt_eq (h r 1) (h1 (r + 2)) (dy_f (h r 1) (h r 0) (h (r + 1)) c (h (r + 2)) a.toNat) → h1 37 1 = dy_s c a.toNat → h1 37 2 = dy_o (h r 1) (h r 0) (h (r + 1)) c (h (r + 2)) a.toNat →
      am_WP mX1_play 0 0 19 [some (am_R 37), some (am_R r), some (am_R x), some (am_I i), some (am_I n), some (am_I a)] [] ρ h1 Q := by
  obtain ⟨i1, i2, i3, i4, ⟨e1, e2, e3⟩, l1, l2, l3⟩ := id hR
  obtain ⟨o1, o2, o3, o4, o5⟩ := id hO
  obtain ⟨j1, j2, f1, m1⟩ := id hS
  have r0 := i1.1
  have x0 := j1.1
  intro k
  induction k with
  | zero => intro a h1 hk; omega
  | succ k ih =>
    intro a h1 hk h0 ha hf hw hall hnum hst hou
    have g0 : h1 r 0 = h r 0 := hf r 0 (by simp <;> omega)
    have g1 : h1 r 1 = h r 1 := hf r 1 (by simp <;> omega)
    have g2 : h1 (r + 1) = h (r + 1) := funext fun k => hf (r + 1) k (by simp <;> omega)
    have gat : ∀ j, sh_at h1 x j = sh_at h x j := fun j => by unfold sh_at; rw [hf x 1 (by simp <;> omega), hf (x + 1) j (by simp <;> omega)]
    have gso : am_SO h1 x := by unfold am_SO; rw [hf x 1 (by simp <;> omega)]; exact hSO
    have hin := dy_f_in (kd := h (r + 1)) (c := c) o1 o5 a.toNat (fun q z0 z1 => hall q z0 (by omega))
    have hO1 : am_RO h1 r := ⟨by omega, by omega, by omega, by omega, fun p z0 z1 => by rw [g1] at z1; rw [hnum p z0 z1, g0]; exact hin p z0 z1⟩
    have hc0 : sh_at h1 x (i + 2 * a) = c (2 * a) := by rw [gat, hc]
    have hc1 : sh_at h1 x (i + 2 * a + 1) = c (2 * a + 1) := by rw [gat, hc]; show _ = sh_at h x (i + (2 * a + 1)); congr 1; omega
    have hsb := dy_s_in (c := c) (n := a.toNat) (fun q z0 z1 => hact q z0 (by omega))
    have hob := dy_o_in (P := h r 1) (B := h r 0) (kd := h (r + 1)) (c := c) (f := h (r + 2)) a.toNat
    have K65 : ∀ h2, am_fr [r + 2, r + 3, 37] h h2 → a < n → dy_can (h r 1) (h r 0) (c (2 * a)) (c (2 * a + 1)) = false → am_WP mX1_play 0 0 65 [some (am_R 37), some (am_R r), some (am_R x), some (am_I i), some (am_I n), some (am_I a)] [] ρ h2 Q := by
      intro h2 hf2 han hcn
      refine am_aload_n (pc' := 66) dX1_play_65 rfl rfl rfl ?_
      refine am_iload (pc' := 68) dX1_play_66 rfl rfl ?_
      refine am_putIk (ki := 0) (pc' := 71) (k := 0) (ci := 1) rfl dX1_play_68 rfl fl_X1_9 (by first | assumption | exact ⟨by omega, by omega, rfl⟩) rfl (fun _ _ _ e => by cases e; rfl) ?_
      refine am_goto (pc' := 91) dX1_play_71 rfl ?_
      refine am_iinc (pc' := 94) (ls' := [_, _, _, _, _, _]) dX1_play_91 rfl rfl ⟨by omega, by omega⟩ (Nat.le_of_ble_eq_true rfl) rfl rfl ?_
      refine am_goto (pc' := 19) dX1_play_94 rfl ?_
      exact t_play_w hn58 (by rw [am_u_s]; omega) (hq0 _ a (am_fr_u hf2 (by simp <;> omega)) (am_u_s _ _ _ _) h0 han hcn hall)
    have K74 : ∀ h2, am_fr [r + 2, r + 3, 37] h h2 → a < n → dy_can (h r 1) (h r 0) (c (2 * a)) (c (2 * a + 1)) = true → h2 37 0 = -9 → mt_eq (h r 1) (h2 (r + 2)) (dy_f (h r 1) (h r 0) (h (r + 1)) c (h (r + 2)) (a + 1).toNat) → h2 37 1 = dy_s c (a + 1).toNat → h2 37 2 = dy_o (h r 1) (h r 0) (h (r + 1)) c (h (r + 2)) a.toNat → am_WP mX1_play 0 0 74 [some (am_R 37), some (am_R r), some (am_R x), some (am_I i), some (am_I n), some (am_I a)] [] ρ h2 Q := by
      intro h2 hf2 han hcn d1 d2 d3 d4
      have p1 : h2 r 1 = h r 1 := hf2 r 1 (by simp <;> omega)
      have zz : mt_sum (fun q => if h2 (r + 2) q = 0 then 1 else 0) (h r 1).toNat = mt_sum (fun q => if dy_f (h r 1) (h r 0) (h (r + 1)) c (h (r + 2)) (a + 1).toNat q = 0 then 1 else 0) (h r 1).toNat := mt_sum_z_eq (by omega) d2
      refine am_aload_n (pc' := 75) dX1_play_74 rfl rfl rfl ?_
      refine am_callVp (pc' := 78) (as := []) (ci := 3)  rfl dX1_play_75 rfl ok_X3_isOut ml_X1_35 im_X3_isOut se_X3_isOut rfl (Nat.le_of_ble_eq_true rfl) rfl (Nat.le_of_ble_eq_true rfl) (by first | assumption | exact ⟨by omega, by omega, rfl⟩) (t_isOut hR (by omega)) ?_
      refine am_if_eq (pc' := 81) (tgt := 91) dX1_play_78 rfl rfl (fun c_78 => ?_) (fun c_78 => ?_)
      · simp only [am_z0, am_z1, ne_eq] at c_78
        first | (rw [p1, zz] at c_78) | skip
        refine am_iinc (pc' := 94) (ls' := [_, _, _, _, _, _]) dX1_play_91 rfl rfl ⟨by omega, by omega⟩ (Nat.le_of_ble_eq_true rfl) rfl rfl ?_
        refine am_goto (pc' := 19) dX1_play_94 rfl ?_
        first | exact ih _ _ (by omega) (by omega) (by omega) hf2 d1 (am_upto hall hcn) d2 d3 (by rw [dy_o_next h0, if_neg c_78, d4]; omega) | exact ih _ _ (by omega) (by omega) (by omega) (am_fr_u hf2 (by simp <;> omega)) (by rw [am_u_n (by omega)]; exact d1) (am_upto hall hcn) (fun p z0 z1 => by rw [am_u_n (by omega)]; exact d2 p z0 z1) (by rw [am_u_n (by omega)]; exact d3) (by rw [am_u_s, dy_o_next h0, if_pos c_78, d4])
      · simp only [am_z0, am_z1, ne_eq] at c_78
        rw [p1, zz] at c_78
        refine am_aload_n (pc' := 82) dX1_play_81 rfl rfl rfl ?_
        first | refine am_dupR (pc' := 83) dX1_play_82 rfl ?_ | refine am_dupI (pc' := 83) dX1_play_82 rfl ?_
        refine am_getIk (ki := 2) (pc' := 86) (k := 2) (ci := 1) rfl dX1_play_83 rfl fl_X1_18 (by first | assumption | exact ⟨by omega, by omega, rfl⟩) rfl ?_
        refine am_iconst (pc' := 87) dX1_play_86 rfl rfl ?_
        refine am_iadd (pc' := 88) dX1_play_87 rfl ⟨by omega, by omega⟩ ?_
        refine am_putIk (ki := 2) (pc' := 91) (k := 2) (ci := 1) rfl dX1_play_88 rfl fl_X1_18 (by first | assumption | exact ⟨by omega, by omega, rfl⟩) rfl (fun _ _ _ e => by cases e; rfl) ?_
        first | (rw [p1, zz] at c_78) | skip
        refine am_iinc (pc' := 94) (ls' := [_, _, _, _, _, _]) dX1_play_91 rfl rfl ⟨by omega, by omega⟩ (Nat.le_of_ble_eq_true rfl) rfl rfl ?_
        refine am_goto (pc' := 19) dX1_play_94 rfl ?_
        first | exact ih _ _ (by omega) (by omega) (by omega) hf2 d1 (am_upto hall hcn) d2 d3 (by rw [dy_o_next h0, if_neg c_78, d4]; omega) | exact ih _ _ (by omega) (by omega) (by omega) (am_fr_u hf2 (by simp <;> omega)) (by rw [am_u_n (by omega)]; exact d1) (am_upto hall hcn) (fun p z0 z1 => by rw [am_u_n (by omega)]; exact d2 p z0 z1) (by rw [am_u_n (by omega)]; exact d3) (by rw [am_u_s, dy_o_next h0, if_pos c_78, d4])
    refine am_iload (pc' := 21) dX1_play_19 rfl rfl ?_
    refine am_iload (pc' := 23) dX1_play_21 rfl rfl ?_
    refine am_icmp_ge (pc' := 26) (tgt := 97) dX1_play_23 rfl rfl (fun c_23 => ?_) (fun c_23 => ?_)
    · refine am_retv dX1_play_97 rfl ?_
      by_cases e9 : a = n
      · subst e9; exact hq1 h1 hf hw hall hnum hst hou
      · first | exact absurd hw c_32 | omega
    · refine am_aload_n (pc' := 27) dX1_play_26 rfl rfl rfl ?_
      refine am_getIk (ki := 0) (pc' := 30) (k := 0) (ci := 1) rfl dX1_play_27 rfl fl_X1_9 (by first | assumption | exact ⟨by omega, by omega, rfl⟩) rfl ?_
      refine am_bipush (pc' := 32) dX1_play_30 rfl rfl (by decide) ?_
      refine am_icmp_ne (pc' := 35) (tgt := 97) dX1_play_32 rfl rfl (fun c_32 => ?_) (fun c_32 => ?_)
      · refine am_retv dX1_play_97 rfl ?_
        by_cases e9 : a = n
        · subst e9; exact hq1 h1 hf hw hall hnum hst hou
        · first | exact absurd hw c_32 | omega
      · have hac := dy_act_in (hact a h0 (by omega))
        refine am_aload_n (pc' := 36) dX1_play_35 rfl rfl rfl ?_
        refine am_aload_n (pc' := 37) dX1_play_36 rfl rfl rfl ?_
        refine am_aload_n (pc' := 38) dX1_play_37 rfl rfl rfl ?_
        refine am_iload_n (pc' := 39) dX1_play_38 rfl rfl rfl ?_
        refine am_iconst (pc' := 40) dX1_play_39 rfl rfl ?_
        refine am_iload (pc' := 42) dX1_play_40 rfl rfl ?_
        refine am_imul (pc' := 43) dX1_play_42 rfl ⟨by omega, by omega⟩ ?_
        refine am_iadd (pc' := 44) dX1_play_43 rfl ⟨by omega, by omega⟩ ?_
        refine am_callVp (pc' := 47) (as := [_]) (ci := 4)  rfl dX1_play_44 rfl ok_X4_at ml_X1_21 im_X4_at se_X4_at rfl (Nat.le_of_ble_eq_true rfl) rfl (Nat.le_of_ble_eq_true rfl) (by first | assumption | exact ⟨by omega, by omega, rfl⟩) (t_at hS gso) ?_
        refine am_aload_n (pc' := 48) dX1_play_47 rfl rfl rfl ?_
        refine am_iload_n (pc' := 49) dX1_play_48 rfl rfl rfl ?_
        refine am_iconst (pc' := 50) dX1_play_49 rfl rfl ?_
        refine am_iload (pc' := 52) dX1_play_50 rfl rfl ?_
        refine am_imul (pc' := 53) dX1_play_52 rfl ⟨by omega, by omega⟩ ?_
        refine am_iadd (pc' := 54) dX1_play_53 rfl ⟨by omega, by omega⟩ ?_
        refine am_iconst (pc' := 55) dX1_play_54 rfl rfl ?_
        refine am_iadd (pc' := 56) dX1_play_55 rfl ⟨by omega, by omega⟩ ?_
        refine am_callVp (pc' := 59) (as := [_]) (ci := 4)  rfl dX1_play_56 rfl ok_X4_at ml_X1_21 im_X4_at se_X4_at rfl (Nat.le_of_ble_eq_true rfl) rfl (Nat.le_of_ble_eq_true rfl) (by first | assumption | exact ⟨by omega, by omega, rfl⟩) (t_at hS gso) ?_
        rw [hc0, hc1]
        refine am_callV0 (pc' := 62) (as := [_, _, _]) (ci := 1)  rfl dX1_play_59 rfl ok_X1_canDo ml_X1_31 im_X1_canDo se_X1_canDo rfl (Nat.le_of_ble_eq_true rfl) rfl (Nat.le_of_ble_eq_true rfl) (by first | assumption | exact ⟨by omega, by omega, rfl⟩) (t_canDo hn58 hR hr hO1 (by omega) (by rw [hst]; omega) (by omega)) (fun r_59 ρ_59 h_59 q_59 g_59 e_59 => ?_)
        obtain ⟨rfl, q1, q2, q3, q4, q5⟩ := q_59
        rw [g0, g1] at q1 q5
        rw [g2] at q5
        have fr9 : am_fr [r + 2, r + 3, 37] h h_59 := am_fr_trans hf q2
        have qn : dy_can (h r 1) (h r 0) (c (2 * a)) (c (2 * a + 1)) = true → mt_eq (h r 1) (h_59 (r + 2)) (dy_f (h r 1) (h r 0) (h (r + 1)) c (h (r + 2)) (a + 1).toNat) := fun q1 p z0 z1 => by
          rw [(q5 q1).2 p z0 z1, dy_f_next h0]
          split
          · exact mt_it_eq o1 (fun _ _ _ => rfl) hnum _ p z0 z1
          · unfold mt_up
            split
            · rfl
            · exact hnum p z0 z1
        have qs : dy_can (h r 1) (h r 0) (c (2 * a)) (c (2 * a + 1)) = true → h_59 37 1 = dy_s c (a + 1).toNat := fun q1 => by
          unfold dy_s
          rw [mt_sum_next _ h0, (q5 q1).1, hst]
          rfl
        rcases q1 with ⟨rfl, q1⟩ | ⟨rfl, q1⟩
        · refine am_if_ne (pc' := 65) (tgt := 74) dX1_play_62 rfl rfl (fun c_62 => ?_) (fun c_62 => ?_)
          · first | exact absurd rfl c_62 | exact K74 _ fr9 (by omega) q1 (by rw [q3, hw]) (qn q1) (qs q1) (by rw [q4, hou])
          · first | exact absurd c_62 (by decide) | exact K65 _ fr9 (by omega) (by simpa using q1)
        · refine am_if_ne (pc' := 65) (tgt := 74) dX1_play_62 rfl rfl (fun c_62 => ?_) (fun c_62 => ?_)
          · first | exact absurd rfl c_62 | exact K74 _ fr9 (by omega) q1 (by rw [q3, hw]) (qn q1) (qs q1) (by rw [q4, hou])
          · first | exact absurd c_62 (by decide) | exact K65 _ fr9 (by omega) (by simpa using q1)
theorem t_play {ρ h : am_H} {r x i n : Int} (hn58 : 58 ≤ ρ 0 0) (hR : am_RA ρ r) (hr : r + 3 < 37) (hO : am_RO h r) (hS : am_SA ρ x) (hSO : am_SO h x) (hne : x + 1 < r) (hi : 0 ≤ i ∧ i ≤ 60) (hn : 0 ≤ n ∧ n ≤ 20) (c : Int → Int) (hc : c = fun k => sh_at h x (i + k)) (hact : ∀ a, 0 ≤ a → a < n → dy_act (c (2 * a)) (c (2 * a + 1)) = true) :
    am_CT mX1_play 0 0 [am_R 37, am_R r, am_R x, am_I i, am_I n] ρ h (fun v ρ' h1 => v = none ∧ ρ' = ρ ∧ am_fr [r + 2, r + 3, 37] h h1 ∧ ((0 ≤ h1 37 0 ∧ h1 37 0 < n ∧ dy_can (h r 1) (h r 0) (c (2 * h1 37 0)) (c (2 * h1 37 0 + 1)) = false ∧ (∀ q, 0 ≤ q → q < h1 37 0 → dy_can (h r 1) (h r 0) (c (2 * q)) (c (2 * q + 1)) = true)) ∨
      (h1 37 0 = -9 ∧ (∀ q, 0 ≤ q → q < n → dy_can (h r 1) (h r 0) (c (2 * q)) (c (2 * q + 1)) = true) ∧ mt_eq (h r 1) (h1 (r + 2)) (dy_f (h r 1) (h r 0) (h (r + 1)) c (h (r + 2)) n.toNat) ∧ h1 37 1 = dy_s c n.toNat ∧ h1 37 2 = dy_o (h r 1) (h r 0) (h (r + 1)) c (h (r + 2)) n.toNat))) := by
  have r0 := hR.1.1
  refine am_ct (ls := [some (am_R 37), some (am_R r), some (am_R x), some (am_I i), some (am_I n), none]) ok_X1_play rfl (fun _ => Nat.le_of_ble_eq_true rfl) (fun _ => rfl) (by intro v hv; simpa using hv) ?_
  refine am_aload_n (pc' := 1) dX1_play_0 rfl rfl rfl ?_
  refine am_bipush (pc' := 3) dX1_play_1 rfl rfl (by decide) ?_
  refine am_putIk (ki := 0) (pc' := 6) (k := 0) (ci := 1) rfl dX1_play_3 rfl fl_X1_9 (by first | assumption | exact ⟨by omega, by omega, rfl⟩) rfl (fun _ _ _ e => by cases e; rfl) ?_
  refine am_aload_n (pc' := 7) dX1_play_6 rfl rfl rfl ?_
  refine am_iconst (pc' := 8) dX1_play_7 rfl rfl ?_
  refine am_putIk (ki := 1) (pc' := 11) (k := 1) (ci := 1) rfl dX1_play_8 rfl fl_X1_15 (by first | assumption | exact ⟨by omega, by omega, rfl⟩) rfl (fun _ _ _ e => by cases e; rfl) ?_
  refine am_aload_n (pc' := 12) dX1_play_11 rfl rfl rfl ?_
  refine am_iconst (pc' := 13) dX1_play_12 rfl rfl ?_
  refine am_putIk (ki := 2) (pc' := 16) (k := 2) (ci := 1) rfl dX1_play_13 rfl fl_X1_18 (by first | assumption | exact ⟨by omega, by omega, rfl⟩) rfl (fun _ _ _ e => by cases e; rfl) ?_
  refine am_iconst (pc' := 17) dX1_play_16 rfl rfl ?_
  refine am_istore (pc' := 19) (ls' := [_, _, _, _, _, _]) dX1_play_17 rfl (Nat.le_of_ble_eq_true rfl) rfl rfl ?_
  refine t_play_l hn58 hR hr hO hS hSO hne hi hn c hc hact (fun h1 w a b d e f g => ⟨rfl, rfl, a, Or.inl ?_⟩) (fun h1 a b d e f g => ⟨rfl, rfl, a, Or.inr ⟨b, d, e, f, g⟩⟩) (n.toNat + 1) 0 _ (by omega) (by omega) (by omega) (am_fr_u (am_fr_u (am_fr_u am_fr_refl (by simp <;> omega)) (by simp <;> omega)) (by simp <;> omega)) (by rw [am_u_n (by omega), am_u_n (by omega), am_u_s]) (fun q z0 z1 => by omega) (fun p z0 z1 => by rw [am_u_n (by omega), am_u_n (by omega), am_u_n (by omega)]; rfl) (by rw [am_u_n (by omega), am_u_s]; rfl) (by rw [am_u_s]; rfl)
  subst b
  exact ⟨d, e, f, g⟩
