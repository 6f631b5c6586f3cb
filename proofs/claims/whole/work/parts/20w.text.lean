/-! the model: a text read -/
theorem t8_readsRing_l {ρ h : am_H} {b n : Int} {c : Int → Int} {Q : am_Q} (hM : am_LM ρ) (hb : 0 ≤ b ∧ b + n ≤ 240 ∧ 0 ≤ n ∧ n ≤ 60) (hc : ∀ t, 0 ≤ t → t < n → h 56 (b + t) = c t) (hT : ∀ h1 q, md_rf h h1 → md_rd h1 c q → n = 2 + 3 * q → 2 ≤ q → Q (some (am_I 1)) ρ h1) (hF : ∀ h1, md_rf h h1 → tx_ff c n (h1 38 6) → 0 ≤ h1 38 6 ∧ h1 38 6 ≤ n → Q (some (am_I 0)) ρ h1) :
    ∀ (m : Nat) (q : Int) (h1 : am_H), (5 - q).toNat < m → md_rf h h1 → md_rd h1 c q → 2 + 3 * q ≤ n → am_WP mX8_readsRing 0 0 77 [some (am_R 38), some (am_I b), some (am_I n), some (am_I 1)] [] ρ h1 Q := by
  have hn58 := hM.1
  have K0 : ∀ h1, md_rf h h1 → tx_ff c n (h1 38 6) → 0 ≤ h1 38 6 ∧ h1 38 6 ≤ n → am_WP mX8_readsRing 0 0 77 [some (am_R 38), some (am_I b), some (am_I n), some (am_I 0)] [] ρ h1 Q := by
    intro h1 z1 z2 z3
    refine am_iload_n (pc' := 78) dX8_readsRing_77 rfl rfl rfl ?_
    refine am_if_eq (pc' := 81) (tgt := 107) dX8_readsRing_78 rfl rfl (fun c_78 => ?_) (fun c_78 => ?_)
    · refine am_iload_n (pc' := 108) dX8_readsRing_107 rfl rfl rfl ?_
      refine am_retz dX8_readsRing_108 rfl (by first | exact Or.inl rfl | exact Or.inr rfl | omega) ?_
      exact hF h1 z1 z2 z3
    · exact absurd rfl c_78
  intro m
  induction m with
  | zero =>
    intro q h1 hm hf hr
    have := hr.1
    intro hq
    refine am_iload_n (pc' := 78) dX8_readsRing_77 rfl rfl rfl ?_
    refine am_if_eq (pc' := 81) (tgt := 107) dX8_readsRing_78 rfl rfl (fun c_78 => ?_) (fun c_78 => ?_)
    · exact absurd c_78 (by decide)
    · exfalso; omega
  | succ m ih =>
    intro q h1 hm hf hr hq
    obtain ⟨q5, e7, e6, e8, r8, hall, hrow⟩ := id hr
    have hc1 : ∀ t, 0 ≤ t → t < n → h1 56 (b + t) = c t := fun t t0 t1 => by rw [hf.1 56 _ (by simp <;> omega)]; exact hc t t0 t1
    refine am_iload_n (pc' := 78) dX8_readsRing_77 rfl rfl rfl ?_
    refine am_if_eq (pc' := 81) (tgt := 107) dX8_readsRing_78 rfl rfl (fun c_78 => ?_) (fun c_78 => ?_)
    · exact absurd c_78 (by decide)
    · refine am_aload_n (pc' := 82) dX8_readsRing_81 rfl rfl rfl ?_
      refine am_getIk (ki := 7) (pc' := 85) (k := 7) (ci := 7) rfl dX8_readsRing_82 rfl fl_X8_87 (by first | assumption | exact ⟨by omega, by omega, rfl⟩) rfl ?_
      refine am_iconst (pc' := 86) dX8_readsRing_85 rfl rfl ?_
      refine am_icmp_lt (pc' := 89) (tgt := 97) dX8_readsRing_86 rfl rfl (fun c_86 => ?_) (fun c_86 => ?_)
      · refine am_aload_n (pc' := 98) dX8_readsRing_97 rfl rfl rfl ?_
        refine am_iload_n (pc' := 99) dX8_readsRing_98 rfl rfl rfl ?_
        refine am_iload_n (pc' := 100) dX8_readsRing_99 rfl rfl rfl ?_
        refine am_callV0 (pc' := 103) (as := [_, _]) (ci := 7)  rfl dX8_readsRing_100 rfl ok_X8_readsPlace ml_X8_101 im_X8_readsPlace se_X8_readsPlace rfl (Nat.le_of_ble_eq_true rfl) rfl (Nat.le_of_ble_eq_true rfl) (by first | assumption | exact ⟨by omega, by omega, rfl⟩) (t8_readsPlace (c := c) hM hb hc1 hr (by omega)) (fun r_100 ρ_100 h_100 q_100 g_100 e_100 => ?_)
        obtain ⟨rfl, w1, w2⟩ := q_100
        rcases w2 with ⟨rfl, w2, w3⟩ | ⟨rfl, w2, w3⟩
        · refine am_istore_n (pc' := 104) (ls' := [_, _, _, _]) dX8_readsRing_103 rfl rfl (Nat.le_of_ble_eq_true rfl) rfl rfl ?_
          refine am_goto (pc' := 77) dX8_readsRing_104 rfl ?_
          first | exact ih _ _ (by have := w2.1; omega) (md_rf_trans hf w1) w2 w3 | exact K0 _ (md_rf_trans hf w1) w2 w3 | fail
        · refine am_istore_n (pc' := 104) (ls' := [_, _, _, _]) dX8_readsRing_103 rfl rfl (Nat.le_of_ble_eq_true rfl) rfl rfl ?_
          refine am_goto (pc' := 77) dX8_readsRing_104 rfl ?_
          first | exact ih _ _ (by have := w2.1; omega) (md_rf_trans hf w1) w2 w3 | exact K0 _ (md_rf_trans hf w1) w2 w3 | fail
      · refine am_aload_n (pc' := 90) dX8_readsRing_89 rfl rfl rfl ?_
        refine am_getIk (ki := 6) (pc' := 93) (k := 6) (ci := 7) rfl dX8_readsRing_90 rfl fl_X8_84 (by first | assumption | exact ⟨by omega, by omega, rfl⟩) rfl ?_
        refine am_iload_n (pc' := 94) dX8_readsRing_93 rfl rfl rfl ?_
        refine am_icmp_ge (pc' := 97) (tgt := 107) dX8_readsRing_94 rfl rfl (fun c_94 => ?_) (fun c_94 => ?_)
        · refine am_iload_n (pc' := 108) dX8_readsRing_107 rfl rfl rfl ?_
          refine am_retz dX8_readsRing_108 rfl (by first | exact Or.inl rfl | exact Or.inr rfl | omega) ?_
          exact hT h1 q hf hr (by omega) (by omega)
        · refine am_aload_n (pc' := 98) dX8_readsRing_97 rfl rfl rfl ?_
          refine am_iload_n (pc' := 99) dX8_readsRing_98 rfl rfl rfl ?_
          refine am_iload_n (pc' := 100) dX8_readsRing_99 rfl rfl rfl ?_
          refine am_callV0 (pc' := 103) (as := [_, _]) (ci := 7)  rfl dX8_readsRing_100 rfl ok_X8_readsPlace ml_X8_101 im_X8_readsPlace se_X8_readsPlace rfl (Nat.le_of_ble_eq_true rfl) rfl (Nat.le_of_ble_eq_true rfl) (by first | assumption | exact ⟨by omega, by omega, rfl⟩) (t8_readsPlace (c := c) hM hb hc1 hr (by omega)) (fun r_100 ρ_100 h_100 q_100 g_100 e_100 => ?_)
          obtain ⟨rfl, w1, w2⟩ := q_100
          rcases w2 with ⟨rfl, w2, w3⟩ | ⟨rfl, w2, w3⟩
          · refine am_istore_n (pc' := 104) (ls' := [_, _, _, _]) dX8_readsRing_103 rfl rfl (Nat.le_of_ble_eq_true rfl) rfl rfl ?_
            refine am_goto (pc' := 77) dX8_readsRing_104 rfl ?_
            first | exact ih _ _ (by have := w2.1; omega) (md_rf_trans hf w1) w2 w3 | exact K0 _ (md_rf_trans hf w1) w2 w3 | fail
          · refine am_istore_n (pc' := 104) (ls' := [_, _, _, _]) dX8_readsRing_103 rfl rfl (Nat.le_of_ble_eq_true rfl) rfl rfl ?_
            refine am_goto (pc' := 77) dX8_readsRing_104 rfl ?_
            first | exact ih _ _ (by have := w2.1; omega) (md_rf_trans hf w1) w2 w3 | exact K0 _ (md_rf_trans hf w1) w2 w3 | fail
theorem t8_readsRing {ρ h : am_H} {b n : Int} {c : Int → Int} (hM : am_LM ρ) (hb : 0 ≤ b ∧ b + n ≤ 240 ∧ 0 ≤ n ∧ n ≤ 60) (hc : ∀ t, 0 ≤ t → t < n → h 56 (b + t) = c t) : am_CT mX8_readsRing 0 0 [am_R 38, am_I b, am_I n] ρ h (fun r ρ' h' => ρ' = ρ ∧ md_rf h h' ∧ ((r = some (am_I 1) ∧ ∃ q, md_rd h' c q ∧ n = 2 + 3 * q ∧ 2 ≤ q) ∨ (r = some (am_I 0) ∧ tx_ff c n (h' 38 6) ∧ 0 ≤ h' 38 6 ∧ h' 38 6 ≤ n))) := by
  have hn58 := hM.1
  have key : ∀ h1, md_rf h h1 → md_rd h1 c 0 → 2 ≤ n → am_WP mX8_readsRing 0 0 77 [some (am_R 38), some (am_I b), some (am_I n), some (am_I 1)] [] ρ h1 (fun r ρ' h' => ρ' = ρ ∧ md_rf h h' ∧ ((r = some (am_I 1) ∧ ∃ q, md_rd h' c q ∧ n = 2 + 3 * q ∧ 2 ≤ q) ∨ (r = some (am_I 0) ∧ tx_ff c n (h' 38 6) ∧ 0 ≤ h' 38 6 ∧ h' 38 6 ≤ n))) := fun h1 a1 a2 a3 =>
    t8_readsRing_l hM hb hc (fun h2 q b1 b2 b3 b4 => ⟨rfl, b1, Or.inl ⟨rfl, q, b2, b3, b4⟩⟩) (fun h2 b1 b2 b3 => ⟨rfl, b1, Or.inr ⟨rfl, b2, b3⟩⟩) 6 0 h1 (by decide) a1 a2 (by omega)
  have F0 : md_cd c n 0 ≠ 114 → tx_ff c n 0 := fun z => tx_bad (by omega) (fun t t0 t1 => by omega) (fun y => by
    rw [md_cdp y] at z
    unfold tx_on
    rw [if_pos rfl]
    exact decide_eq_false z) (by omega)
  have A0 : md_cd c n 0 = 114 → ∀ t, 0 ≤ t → t < 1 → tx_on t (c t) (c 1 - 48) = true := fun z t t0 t1 => by
    rw [show t = 0 by omega, (md_cde z (by decide)).2]
    rfl
  refine am_ct (ls := [some (am_R 38), some (am_I b), some (am_I n), none]) ok_X8_readsRing rfl (fun _ => Nat.le_of_ble_eq_true rfl) (fun _ => rfl) (by intro v hv; simpa using hv) ?_
  refine am_WPrng (fun hrn => ?_)
  have ok1 : am_okI (md_cd c n 1) := by
    unfold md_cd
    split
    · rw [← hc _ (by omega) (by omega)]; exact hrn.2.1 _ _
    · exact ⟨by decide, by decide⟩
  have hw := tx_w ok1
  have F1 : md_cd c n 0 = 114 → ¬ (2 ≤ am_w (md_cd c n 1 - 48) ∧ am_w (md_cd c n 1 - 48) ≤ 6) → tx_ff c n 1 := fun z w => by
    have z2 := (md_cde z (by decide)).1
    refine tx_bad (by omega) (A0 z) (fun y => ?_) (by omega)
    rw [md_cdp y] at hw w
    unfold tx_on
    rw [if_neg (by decide), if_pos rfl]
    exact decide_eq_false (by omega)
  refine am_aload_n (pc' := 1) dX8_readsRing_0 rfl rfl rfl ?_
  refine am_iconst (pc' := 2) dX8_readsRing_1 rfl rfl ?_
  refine am_putIk (ki := 6) (pc' := 5) (k := 6) (ci := 7) rfl dX8_readsRing_2 rfl fl_X8_84 (by first | assumption | exact ⟨by omega, by omega, rfl⟩) rfl (fun _ _ _ e => by cases e; rfl) ?_
  refine am_aload_n (pc' := 6) dX8_readsRing_5 rfl rfl rfl ?_
  refine am_iconst (pc' := 7) dX8_readsRing_6 rfl rfl ?_
  refine am_putIk (ki := 7) (pc' := 10) (k := 7) (ci := 7) rfl dX8_readsRing_7 rfl fl_X8_87 (by first | assumption | exact ⟨by omega, by omega, rfl⟩) rfl (fun _ _ _ e => by cases e; rfl) ?_
  refine am_aload_n (pc' := 11) dX8_readsRing_10 rfl rfl rfl ?_
  refine am_iload_n (pc' := 12) dX8_readsRing_11 rfl rfl rfl ?_
  refine am_iload_n (pc' := 13) dX8_readsRing_12 rfl rfl rfl ?_
  refine am_callVp (pc' := 16) (as := [_, _]) (ci := 7)  rfl dX8_readsRing_13 rfl ok_X8_codeAt ml_X8_90 im_X8_codeAt se_X8_codeAt rfl (Nat.le_of_ble_eq_true rfl) rfl (Nat.le_of_ble_eq_true rfl) (by first | assumption | exact ⟨by omega, by omega, rfl⟩) (t8_codeC (c := c) (a := 0) hM hb (by rw [am_u_n (by omega), am_u_s]) (by omega) (fun t t0 t1 => by rw [am_u_n (by omega), am_u_n (by omega)]; exact hc t t0 t1)) ?_
  refine am_bipush (pc' := 18) dX8_readsRing_16 rfl rfl (by decide) ?_
  refine am_icmp_eq (pc' := 21) (tgt := 23) dX8_readsRing_18 rfl rfl (fun c_18 => ?_) (fun c_18 => ?_)
  · have y1 : md_cd c n 0 = 114 := c_18
    have y2 := (md_cde y1 (by decide)).1
    refine am_aload_n (pc' := 24) dX8_readsRing_23 rfl rfl rfl ?_
    first | refine am_dupR (pc' := 25) dX8_readsRing_24 rfl ?_ | refine am_dupI (pc' := 25) dX8_readsRing_24 rfl ?_
    refine am_getIk (ki := 6) (pc' := 28) (k := 6) (ci := 7) rfl dX8_readsRing_25 rfl fl_X8_84 (by first | assumption | exact ⟨by omega, by omega, rfl⟩) rfl ?_
    rw [am_u_n (by omega), am_u_s]
    refine am_iconst (pc' := 29) dX8_readsRing_28 rfl rfl ?_
    refine am_iadd (pc' := 30) dX8_readsRing_29 rfl ⟨by omega, by omega⟩ ?_
    refine am_putIk (ki := 6) (pc' := 33) (k := 6) (ci := 7) rfl dX8_readsRing_30 rfl fl_X8_84 (by first | assumption | exact ⟨by omega, by omega, rfl⟩) rfl (fun _ _ _ e => by cases e; rfl) ?_
    refine am_aload_n (pc' := 34) dX8_readsRing_33 rfl rfl rfl ?_
    refine am_aload_n (pc' := 35) dX8_readsRing_34 rfl rfl rfl ?_
    refine am_iload_n (pc' := 36) dX8_readsRing_35 rfl rfl rfl ?_
    refine am_iload_n (pc' := 37) dX8_readsRing_36 rfl rfl rfl ?_
    refine am_callVp (pc' := 40) (as := [_, _]) (ci := 7)  rfl dX8_readsRing_37 rfl ok_X8_codeAt ml_X8_90 im_X8_codeAt se_X8_codeAt rfl (Nat.le_of_ble_eq_true rfl) rfl (Nat.le_of_ble_eq_true rfl) (by first | assumption | exact ⟨by omega, by omega, rfl⟩) (t8_codeC (c := c) (a := 0 + 1) hM hb (am_u_s _ _ _ _) (by omega) (fun t t0 t1 => by rw [am_u_n (by omega), am_u_n (by omega), am_u_n (by omega)]; exact hc t t0 t1)) ?_
    rw [show (0 : Int) + 1 = 1 from rfl]
    refine am_bipush (pc' := 42) dX8_readsRing_40 rfl rfl (by decide) ?_
    refine am_isubw (pc' := 43) dX8_readsRing_42 rfl ?_
    refine am_putIk (ki := 8) (pc' := 46) (k := 8) (ci := 7) rfl dX8_readsRing_43 rfl fl_X8_94 (by first | assumption | exact ⟨by omega, by omega, rfl⟩) rfl (fun _ _ _ e => by cases e; rfl) ?_
    refine am_aload_n (pc' := 47) dX8_readsRing_46 rfl rfl rfl ?_
    refine am_getIk (ki := 8) (pc' := 50) (k := 8) (ci := 7) rfl dX8_readsRing_47 rfl fl_X8_94 (by first | assumption | exact ⟨by omega, by omega, rfl⟩) rfl ?_
    rw [am_u_s]
    refine am_i2l (pc' := 51) dX8_readsRing_50 rfl ?_
    refine am_ldc2 (pc' := 54) (x := 2) dX8_readsRing_51 rfl kl_X8_97 rfl rfl ?_
    refine am_ldc2 (pc' := 57) (x := 6) dX8_readsRing_54 rfl kl_X8_99 rfl rfl ?_
    refine am_callSp (pc' := 60) (as := [_, _, _])  rfl dX8_readsRing_57 rfl ok_X8_in ml_X8_80 sm_X8_in (Nat.le_of_ble_eq_true rfl) rfl (Nat.le_of_ble_eq_true rfl) (t8_in) ?_
    refine am_if_ne (pc' := 63) (tgt := 65) dX8_readsRing_60 rfl rfl (fun c_60 => ?_) (fun c_60 => ?_)
    · simp only [am_z0, am_z1, ne_eq] at c_60
      have y5 : 50 ≤ md_cd c n 1 ∧ md_cd c n 1 ≤ 54 ∧ am_w (md_cd c n 1 - 48) = md_cd c n 1 - 48 := by omega
      have y6 : 1 < n ∧ md_cd c n 1 = c 1 := by
        by_cases u : 1 < n
        · exact ⟨u, md_cdp u⟩
        · unfold md_cd at y5
          rw [if_neg u] at y5
          omega
      rw [y5.2.2, y6.2]
      refine am_aload_n (pc' := 66) dX8_readsRing_65 rfl rfl rfl ?_
      first | refine am_dupR (pc' := 67) dX8_readsRing_66 rfl ?_ | refine am_dupI (pc' := 67) dX8_readsRing_66 rfl ?_
      refine am_getIk (ki := 6) (pc' := 70) (k := 6) (ci := 7) rfl dX8_readsRing_67 rfl fl_X8_84 (by first | assumption | exact ⟨by omega, by omega, rfl⟩) rfl ?_
      rw [am_u_n (by omega), am_u_s]
      refine am_iconst (pc' := 71) dX8_readsRing_70 rfl rfl ?_
      refine am_iadd (pc' := 72) dX8_readsRing_71 rfl ⟨by omega, by omega⟩ ?_
      refine am_putIk (ki := 6) (pc' := 75) (k := 6) (ci := 7) rfl dX8_readsRing_72 rfl fl_X8_84 (by first | assumption | exact ⟨by omega, by omega, rfl⟩) rfl (fun _ _ _ e => by cases e; rfl) ?_
      refine am_iconst (pc' := 76) dX8_readsRing_75 rfl rfl ?_
      refine am_istore_n (pc' := 77) (ls' := [_, _, _, _]) dX8_readsRing_76 rfl rfl (Nat.le_of_ble_eq_true rfl) rfl rfl ?_
      refine key _ (md_rf_s (md_rf_s (md_rf_s (md_rf_s (md_rf_s md_rf_refl (by omega)) (by omega)) (by omega)) (by omega)) (by omega)) ⟨by omega, ?_, ?_, ?_, ?_, ?_, fun p p0 p1 => by omega⟩ (by omega)
      · rw [am_u_n (by omega), am_u_n (by omega), am_u_n (by omega), am_u_s]
      · rw [am_u_s]; rfl
      · rw [am_u_n (by omega), am_u_s]
      · rw [am_u_n (by omega), am_u_s]; omega
      · refine fun t t0 t1 => am_upto (i := 1) (A0 y1) ?_ t t0 (by omega)
        unfold tx_on
        rw [if_neg (by decide), if_pos rfl]
        exact decide_eq_true (by omega)
    · simp only [am_z0, am_z1, ne_eq] at c_60
      refine am_iconst (pc' := 64) dX8_readsRing_63 rfl rfl ?_
      refine am_retz dX8_readsRing_64 rfl (by first | exact Or.inl rfl | exact Or.inr rfl | omega) ?_
      have e9 : am_u (am_u (am_u (am_u h 38 6 0) 38 7 0) 38 6 1) 38 8 (am_w (md_cd c n 1 - 48)) 38 6 = 1 := by rw [am_u_n (by omega), am_u_s]
      exact ⟨rfl, md_rf_s (md_rf_s (md_rf_s (md_rf_s md_rf_refl (by omega)) (by omega)) (by omega)) (by omega), Or.inr ⟨rfl, by rw [e9]; exact F1 y1 c_60, by rw [e9]; omega, by rw [e9]; omega⟩⟩
  · refine am_iconst (pc' := 22) dX8_readsRing_21 rfl rfl ?_
    refine am_retz dX8_readsRing_22 rfl (by first | exact Or.inl rfl | exact Or.inr rfl | omega) ?_
    exact ⟨rfl, md_rf_s (md_rf_s md_rf_refl (by omega)) (by omega), Or.inr ⟨rfl, by rw [am_u_n (by omega), am_u_s]; exact F0 c_18, by rw [am_u_n (by omega), am_u_s]; omega, by rw [am_u_n (by omega), am_u_s]; omega⟩⟩
theorem t8_ring_l {ρ h : am_H} {k l i n P r5 : Int} {Q : am_Q} (hM : am_LM ρ) (hP : h 38 1 = P) (hP5 : 0 ≤ P ∧ P ≤ 5) (hq : ∀ h1, am_fr [39, 40] h h1 → (∀ p, 0 ≤ p → p < P → h1 39 p = h 41 p ∧ h1 40 p = h 42 p) → Q (some (am_I P)) ρ (am_u (am_u h1 38 23 0) 38 0 0)) :
    ∀ (m : Nat) (x : Int) (h1 : am_H), (P - x).toNat < m → 0 ≤ x → x ≤ P → am_fr [39, 40] h h1 → (∀ p, 0 ≤ p → p < x → h1 39 p = h 41 p ∧ h1 40 p = h 42 p) → am_WP mX8_ring 0 0 103 [some (am_R 38), some (am_I k), some (am_I l), some (am_I i), some (am_I n), some (am_I r5), some (am_I x)] [] ρ h1 Q := by
  have hn58 := hM.1
  have x1 := am_lm hM 38 9 41 (by decide)
  have x2 := am_lm hM 38 10 42 (by decide)
  have x3 := am_lm hM 38 4 39 (by decide)
  have x4 := am_lm hM 38 5 40 (by decide)
  have l1 := am_lm hM 41 (-1) 5 (by decide)
  have l2 := am_lm hM 42 (-1) 5 (by decide)
  have l3 := am_lm hM 39 (-1) 5 (by decide)
  have l4 := am_lm hM 40 (-1) 5 (by decide)
  intro m
  induction m with
  | zero => intro x h1 hm; omega
  | succ m ih =>
    intro x h1 hm h0 h9 hf hr
    have g1 : h1 38 1 = P := (hf 38 1 (by simp <;> omega)).trans hP
    have g2 : h1 41 x = h 41 x := hf 41 x (by simp <;> omega)
    have g3 : h1 42 x = h 42 x := hf 42 x (by simp <;> omega)
    refine am_iload (pc' := 105) dX8_ring_103 rfl rfl ?_
    refine am_aload_n (pc' := 106) dX8_ring_105 rfl rfl rfl ?_
    refine am_getIk (ki := 1) (pc' := 109) (k := 1) (ci := 7) rfl dX8_ring_106 rfl fl_X8_77 (by first | assumption | exact ⟨by omega, by omega, rfl⟩) rfl ?_
    rw [g1]
    refine am_icmp_ge (pc' := 112) (tgt := 146) dX8_ring_109 rfl rfl (fun c_109 => ?_) (fun c_109 => ?_)
    · refine am_aload_n (pc' := 147) dX8_ring_146 rfl rfl rfl ?_
      refine am_iconst (pc' := 148) dX8_ring_147 rfl rfl ?_
      refine am_putIk (ki := 23) (pc' := 151) (k := 23) (ci := 7) rfl dX8_ring_148 rfl fl_X8_133 (by first | assumption | exact ⟨by omega, by omega, rfl⟩) rfl (fun _ _ _ e => by cases e; rfl) ?_
      refine am_aload_n (pc' := 152) dX8_ring_151 rfl rfl rfl ?_
      refine am_aload_n (pc' := 153) dX8_ring_152 rfl rfl rfl ?_
      refine am_getIk (ki := 1) (pc' := 156) (k := 1) (ci := 7) rfl dX8_ring_153 rfl fl_X8_77 (by first | assumption | exact ⟨by omega, by omega, rfl⟩) rfl ?_
      rw [am_u_n (by omega), g1]
      refine am_callV0 (pc' := 159) (as := [_]) (ci := 7)  rfl dX8_ring_156 rfl ok_X8_refused ml_X8_117 im_X8_refused se_X8_refused rfl (Nat.le_of_ble_eq_true rfl) rfl (Nat.le_of_ble_eq_true rfl) (by first | assumption | exact ⟨by omega, by omega, rfl⟩) (t8_refused hM) (fun r_156 ρ_156 h_156 q_156 g_156 e_156 => ?_)
      obtain ⟨rfl, rfl, rfl⟩ := q_156
      refine am_reti dX8_ring_159 rfl ?_
      exact hq h1 hf (fun p p0 p1 => hr p p0 (by omega))
    · refine am_aload_n (pc' := 113) dX8_ring_112 rfl rfl rfl ?_
      refine am_getRk (ki := 4) (pc' := 116) (k := 4) (ci := 7) rfl dX8_ring_113 rfl fl_X8_7 (by first | assumption | exact ⟨by omega, by omega, rfl⟩) rfl (by assumption) (by omega) ?_
      refine am_iload (pc' := 118) dX8_ring_116 rfl rfl ?_
      refine am_aload_n (pc' := 119) dX8_ring_118 rfl rfl rfl ?_
      refine am_getRk (ki := 9) (pc' := 122) (k := 9) (ci := 7) rfl dX8_ring_119 rfl fl_X8_16 (by first | assumption | exact ⟨by omega, by omega, rfl⟩) rfl (by assumption) (by omega) ?_
      refine am_iload (pc' := 124) dX8_ring_122 rfl rfl ?_
      refine am_iaload (pc' := 125) dX8_ring_124 rfl (by first | assumption | exact ⟨by omega, by omega, rfl⟩) (by omega) (by omega) ?_
      refine am_iastore (pc' := 126) dX8_ring_125 rfl (by first | assumption | exact ⟨by omega, by omega, rfl⟩) (by omega) (by omega) ?_
      refine am_aload_n (pc' := 127) dX8_ring_126 rfl rfl rfl ?_
      refine am_getRk (ki := 5) (pc' := 130) (k := 5) (ci := 7) rfl dX8_ring_127 rfl fl_X8_13 (by first | assumption | exact ⟨by omega, by omega, rfl⟩) rfl (by assumption) (by omega) ?_
      refine am_iload (pc' := 132) dX8_ring_130 rfl rfl ?_
      refine am_aload_n (pc' := 133) dX8_ring_132 rfl rfl rfl ?_
      refine am_getRk (ki := 10) (pc' := 136) (k := 10) (ci := 7) rfl dX8_ring_133 rfl fl_X8_19 (by first | assumption | exact ⟨by omega, by omega, rfl⟩) rfl (by assumption) (by omega) ?_
      refine am_iload (pc' := 138) dX8_ring_136 rfl rfl ?_
      refine am_iaload (pc' := 139) dX8_ring_138 rfl (by first | assumption | exact ⟨by omega, by omega, rfl⟩) (by omega) (by omega) ?_
      refine am_iastore (pc' := 140) dX8_ring_139 rfl (by first | assumption | exact ⟨by omega, by omega, rfl⟩) (by omega) (by omega) ?_
      refine am_iinc (pc' := 143) (ls' := [_, _, _, _, _, _, _]) dX8_ring_140 rfl rfl ⟨by omega, by omega⟩ (Nat.le_of_ble_eq_true rfl) rfl rfl ?_
      refine am_goto (pc' := 103) dX8_ring_143 rfl ?_
      refine ih _ _ (by omega) (by omega) (by omega) (am_fr_u (am_fr_u hf (by simp <;> omega)) (by simp <;> omega)) (am_upto (fun p p0 p1 => ?_) ⟨?_, ?_⟩)
      · refine ⟨?_, ?_⟩
        · rw [am_u_n (by omega), am_u_n (by omega)]; exact (hr p p0 p1).1
        · rw [am_u_n (by omega), am_u_n (by omega)]; exact (hr p p0 p1).2
      · rw [am_u_n (by omega), am_u_s]; exact g2
      · rw [am_u_s, am_u_n (by omega)]; exact g3
def md_c (h : am_H) (k i : Int) : Int → Int := fun t => h 56 (60 * k + i + t)
def md_fl (h : am_H) (k l i n : Int) : Int := sh_as (md_ln h k) (h 54 k) l i n
theorem md_fr_of {h h1 : am_H} (a : md_rf h h1) : md_fr (am_u h 38 0 0) (am_u h1 38 0 0) := by
  refine ⟨fun x j z1 z2 z3 => ?_, fun j z => ?_⟩
  · rw [am_u_n (by omega), am_u_n (by omega)]
    exact a.1 x j (by simp <;> omega)
  · by_cases y : j = 0
    · rw [y, am_u_s, am_u_s]
    · rw [am_u_n (by omega), am_u_n (by omega)]
      exact a.2 j (by omega) (by omega) (by omega)
theorem t8_ring_52 {ρ h : am_H} {k l i n : Int} {Q : am_Q} (hM : am_LM ρ) (hk : 0 ≤ k ∧ k < 4) (hz : 0 ≤ n ∧ 0 ≤ i ∧ i + n ≤ 60) (hF : ∀ h1 v, tx_ff (md_c h k i) n v → v ≠ -9 → md_fr (am_u h 38 0 0) h1 → Q (some (am_I (-100 - v))) ρ h1)
    (hT : ∀ h1, tx_ff (md_c h k i) n (-9) → am_fr [38, 39, 40, 41, 42] h h1 → h1 38 0 = 0 → h1 38 1 = o_P n → h1 38 2 = md_c h k i 1 - 48 → h1 38 3 = 0 → h1 38 23 = 0 → h1 38 31 = h 38 31 → (∀ p, 0 ≤ p → p < o_P n → h1 39 p = tx_kd (md_c h k i (2 + 3 * p + 1)) ∧ h1 40 p = md_c h k i (2 + 3 * p + 2) - 48) → Q (some (am_I (o_P n))) ρ h1) :
    am_WP mX8_ring 0 0 52 [some (am_R 38), some (am_I k), some (am_I l), some (am_I i), some (am_I n), some (am_I 0), none] [] ρ h Q := by
  have hn58 := hM.1
  refine am_aload_n (pc' := 53) dX8_ring_52 rfl rfl rfl ?_
  refine am_bipush (pc' := 55) dX8_ring_53 rfl rfl (by decide) ?_
  refine am_iload_n (pc' := 56) dX8_ring_55 rfl rfl rfl ?_
  refine am_imul (pc' := 57) dX8_ring_56 rfl ⟨by omega, by omega⟩ ?_
  refine am_iload_n (pc' := 58) dX8_ring_57 rfl rfl rfl ?_
  refine am_iadd (pc' := 59) dX8_ring_58 rfl ⟨by omega, by omega⟩ ?_
  refine am_iload (pc' := 61) dX8_ring_59 rfl rfl ?_
  refine am_callV0 (pc' := 64) (as := [_, _]) (ci := 7)  rfl dX8_ring_61 rfl ok_X8_readsRing ml_X8_124 im_X8_readsRing se_X8_readsRing rfl (Nat.le_of_ble_eq_true rfl) rfl (Nat.le_of_ble_eq_true rfl) (by first | assumption | exact ⟨by omega, by omega, rfl⟩) (t8_readsRing (c := md_c h k i) hM (by omega) (fun t t0 t1 => rfl)) (fun r_61 ρ_61 h_61 q_61 g_61 e_61 => ?_)
  obtain ⟨rfl, f1, w2⟩ := q_61
  rcases w2 with ⟨rfl, q, w3, w4, w5⟩ | ⟨rfl, w3, w4⟩
  · refine am_if_ne (pc' := 67) (tgt := 79) dX8_ring_64 rfl rfl (fun _ => ?_) (fun z => absurd z (by decide))
    obtain ⟨q5, g7, g6, g8, r8, hall, hrow⟩ := id w3
    have eq : o_P n = q := by unfold o_P; omega
    refine am_aload_n (pc' := 80) dX8_ring_79 rfl rfl rfl ?_
    refine am_aload_n (pc' := 81) dX8_ring_80 rfl rfl rfl ?_
    refine am_getIk (ki := 7) (pc' := 84) (k := 7) (ci := 7) rfl dX8_ring_81 rfl fl_X8_87 (by first | assumption | exact ⟨by omega, by omega, rfl⟩) rfl ?_
    rw [g7]
    refine am_putIk (ki := 1) (pc' := 87) (k := 1) (ci := 7) rfl dX8_ring_84 rfl fl_X8_77 (by first | assumption | exact ⟨by omega, by omega, rfl⟩) rfl (fun _ _ _ e => by cases e; rfl) ?_
    refine am_aload_n (pc' := 88) dX8_ring_87 rfl rfl rfl ?_
    refine am_aload_n (pc' := 89) dX8_ring_88 rfl rfl rfl ?_
    refine am_getIk (ki := 8) (pc' := 92) (k := 8) (ci := 7) rfl dX8_ring_89 rfl fl_X8_94 (by first | assumption | exact ⟨by omega, by omega, rfl⟩) rfl ?_
    rw [am_u_n (by omega), g8]
    refine am_putIk (ki := 2) (pc' := 95) (k := 2) (ci := 7) rfl dX8_ring_92 rfl fl_X8_127 (by first | assumption | exact ⟨by omega, by omega, rfl⟩) rfl (fun _ _ _ e => by cases e; rfl) ?_
    refine am_aload_n (pc' := 96) dX8_ring_95 rfl rfl rfl ?_
    refine am_iconst (pc' := 97) dX8_ring_96 rfl rfl ?_
    refine am_putIk (ki := 3) (pc' := 100) (k := 3) (ci := 7) rfl dX8_ring_97 rfl fl_X8_130 (by first | assumption | exact ⟨by omega, by omega, rfl⟩) rfl (fun _ _ _ e => by cases e; rfl) ?_
    refine am_iconst (pc' := 101) dX8_ring_100 rfl rfl ?_
    refine am_istore (pc' := 103) (ls' := [_, _, _, _, _, _, _]) dX8_ring_101 rfl (Nat.le_of_ble_eq_true rfl) rfl rfl ?_
    refine t8_ring_l (P := q) hM (by rw [am_u_n (by omega), am_u_n (by omega), am_u_s]) q5 (fun h2 a b => ?_) (q.toNat + 1) 0 _ (by omega) (by omega) (by omega) am_fr_refl (fun p p0 p1 => by omega)
    have F : ∀ x j, x = 41 ∨ x = 42 → am_u (am_u (am_u h_61 38 1 q) 38 2 (md_c h k i 1 - 48)) 38 3 0 x j = h_61 x j := fun x j z => by rw [am_u_n (by omega), am_u_n (by omega), am_u_n (by omega)]
    rw [← eq]
    refine hT _ (Or.inl ⟨rfl, by omega, by omega, fun t t0 t1 => hall t t0 (by omega)⟩) (fun x j hx => ?_) (am_u_s _ _ _ _) ?_ ?_ ?_ ?_ ?_ (fun p p0 p1 => ?_)
    · rw [am_u_n (by simp at hx; omega), am_u_n (by simp at hx; omega), a x j (by simp at hx ⊢; omega), am_u_n (by simp at hx; omega), am_u_n (by simp at hx; omega), am_u_n (by simp at hx; omega)]; exact f1.1 x j (by simp at hx ⊢; omega)
    · rw [am_u_n (by omega), am_u_n (by omega), a 38 1 (by simp <;> omega), am_u_n (by omega), am_u_n (by omega), am_u_s]; exact eq.symm
    · rw [am_u_n (by omega), am_u_n (by omega), a 38 2 (by simp <;> omega), am_u_n (by omega), am_u_s]
    · rw [am_u_n (by omega), am_u_n (by omega), a 38 3 (by simp <;> omega), am_u_s]
    · rw [am_u_n (by omega), am_u_s]
    · rw [am_u_n (by omega), am_u_n (by omega), a 38 31 (by simp <;> omega), am_u_n (by omega), am_u_n (by omega), am_u_n (by omega)]; exact f1.2 31 (by decide) (by decide) (by decide)
    · rw [am_u_n (by omega), am_u_n (by omega), am_u_n (by omega), am_u_n (by omega), (b p p0 (by omega)).1, (b p p0 (by omega)).2, F 41 p (by omega), F 42 p (by omega)]; exact hrow p p0 (by omega)
  · refine am_if_ne (pc' := 67) (tgt := 79) dX8_ring_64 rfl rfl (fun z => absurd rfl z) (fun _ => ?_)
    refine am_aload_n (pc' := 68) dX8_ring_67 rfl rfl rfl ?_
    refine am_bipush (pc' := 70) dX8_ring_68 rfl rfl (by decide) ?_
    refine am_aload_n (pc' := 71) dX8_ring_70 rfl rfl rfl ?_
    refine am_getIk (ki := 6) (pc' := 74) (k := 6) (ci := 7) rfl dX8_ring_71 rfl fl_X8_84 (by first | assumption | exact ⟨by omega, by omega, rfl⟩) rfl ?_
    refine am_isub (pc' := 75) dX8_ring_74 rfl ⟨by omega, by omega⟩ ?_
    refine am_callV0 (pc' := 78) (as := [_]) (ci := 7)  rfl dX8_ring_75 rfl ok_X8_refused ml_X8_117 im_X8_refused se_X8_refused rfl (Nat.le_of_ble_eq_true rfl) rfl (Nat.le_of_ble_eq_true rfl) (by first | assumption | exact ⟨by omega, by omega, rfl⟩) (t8_refused hM) (fun r_75 ρ_75 h_75 q_75 g_75 e_75 => ?_)
    obtain ⟨rfl, rfl, rfl⟩ := q_75
    refine am_reti dX8_ring_78 rfl ?_
    exact hF _ _ w3 (by omega) (md_fr_of f1)
theorem t8_ring {ρ h : am_H} {k l i n : Int} (hM : am_LM ρ) (hS : md_S h) : am_CT mX8_ring 0 0 [am_R 38, am_I k, am_I l, am_I i, am_I n] ρ h (fun r ρ' h' => ρ' = ρ ∧
    ((¬ (0 ≤ k ∧ k < 4) ∧ r = some (am_I (-1)) ∧ h' = am_u h 38 0 0) ∨ ((0 ≤ k ∧ k < 4) ∧ ¬ (0 ≤ l ∧ l < 3) ∧ r = some (am_I (-2)) ∧ h' = am_u h 38 0 0) ∨ ((0 ≤ k ∧ k < 4) ∧ (0 ≤ l ∧ l < 3) ∧ md_fl h k l i n ≠ 0 ∧ r = some (am_I (-10 - md_fl h k l i n)) ∧ h' = am_u h 38 0 (md_fl h k l i n)) ∨
    ((0 ≤ k ∧ k < 4) ∧ (0 ≤ l ∧ l < 3) ∧ md_fl h k l i n = 0 ∧ ∃ v, tx_ff (md_c h k i) n v ∧ v ≠ -9 ∧ r = some (am_I (-100 - v)) ∧ md_fr (am_u h 38 0 0) h') ∨
    ((0 ≤ k ∧ k < 4) ∧ (0 ≤ l ∧ l < 3) ∧ md_fl h k l i n = 0 ∧ tx_ff (md_c h k i) n (-9) ∧ r = some (am_I (o_P n)) ∧ am_fr [38, 39, 40, 41, 42] h h' ∧ h' 38 0 = 0 ∧ h' 38 1 = o_P n ∧ h' 38 2 = md_c h k i 1 - 48 ∧ h' 38 3 = 0 ∧ h' 38 23 = 0 ∧ h' 38 31 = h 38 31 ∧ ∀ p, 0 ≤ p → p < o_P n → h' 39 p = tx_kd (md_c h k i (2 + 3 * p + 1)) ∧ h' 40 p = md_c h k i (2 + 3 * p + 2) - 48))) := by
  have hn58 := hM.1
  refine am_ct (ls := [some (am_R 38), some (am_I k), some (am_I l), some (am_I i), some (am_I n), none, none]) ok_X8_ring rfl (fun _ => Nat.le_of_ble_eq_true rfl) (fun _ => rfl) (by intro v hv; simpa using hv) ?_
  refine am_WPol (fun ol => ?_)
  have oi : am_okI i := ol (am_I i) (by simp)
  have on : am_okI n := ol (am_I n) (by simp)
  clear ol
  unfold am_okI at oi on
  refine am_iload_n (pc' := 1) dX8_ring_0 rfl rfl rfl ?_
  refine am_callSp (pc' := 4) (as := [_])  rfl dX8_ring_1 rfl ok_X8_noSheet ml_X8_113 sm_X8_noSheet (Nat.le_of_ble_eq_true rfl) rfl (Nat.le_of_ble_eq_true rfl) (t8_noSheet) ?_
  refine am_if_eq (pc' := 7) (tgt := 13) dX8_ring_4 rfl rfl (fun c_4 => ?_) (fun c_4 => ?_)
  · simp only [am_z0, am_z1, ne_eq] at c_4
    refine am_iload_n (pc' := 14) dX8_ring_13 rfl rfl rfl ?_
    refine am_i2l (pc' := 15) dX8_ring_14 rfl ?_
    refine am_lconst0 (pc' := 16) dX8_ring_15 rfl ?_
    refine am_ldc2 (pc' := 19) (x := 2) dX8_ring_16 rfl kl_X8_97 rfl rfl ?_
    refine am_callSp (pc' := 22) (as := [_, _, _])  rfl dX8_ring_19 rfl ok_X8_in ml_X8_80 sm_X8_in (Nat.le_of_ble_eq_true rfl) rfl (Nat.le_of_ble_eq_true rfl) (t8_in) ?_
    refine am_if_ne (pc' := 25) (tgt := 32) dX8_ring_22 rfl rfl (fun c_22 => ?_) (fun c_22 => ?_)
    · simp only [am_z0, am_z1, ne_eq] at c_22
      have hk : 0 ≤ k ∧ k < 4 := by omega
      have hl : 0 ≤ l ∧ l < 3 := by omega
      have hs := hS k hk.1 hk.2
      have hb := sh_asb (md_ln h k) (h 54 k) l i n
      refine am_aload_n (pc' := 33) dX8_ring_32 rfl rfl rfl ?_
      refine am_iload_n (pc' := 34) dX8_ring_33 rfl rfl rfl ?_
      refine am_iload_n (pc' := 35) dX8_ring_34 rfl rfl rfl ?_
      refine am_iload_n (pc' := 36) dX8_ring_35 rfl rfl rfl ?_
      refine am_iload (pc' := 38) dX8_ring_36 rfl rfl ?_
      refine am_i2l (pc' := 39) dX8_ring_38 rfl ?_
      refine am_callV0 (pc' := 42) (as := [_, _, _, _]) (ci := 7)  rfl dX8_ring_39 rfl ok_X8_cellsBarred ml_X8_120 im_X8_cellsBarred se_X8_cellsBarred rfl (Nat.le_of_ble_eq_true rfl) rfl (Nat.le_of_ble_eq_true rfl) (by first | assumption | exact ⟨by omega, by omega, rfl⟩) (t8_cellsBarred hM hS hk (by omega) (by omega)) (fun r_39 ρ_39 h_39 q_39 g_39 e_39 => ?_)
      obtain ⟨rfl, w2⟩ := q_39
      rcases w2 with ⟨w1, rfl, rfl⟩ | ⟨w1, rfl, rfl⟩
      · refine am_istore (pc' := 44) (ls' := [_, _, _, _, _, _, _]) dX8_ring_42 rfl (Nat.le_of_ble_eq_true rfl) rfl rfl ?_
        refine am_iload (pc' := 46) dX8_ring_44 rfl rfl ?_
        refine am_if_ge (pc' := 49) (tgt := 52) dX8_ring_46 rfl rfl (fun c_46 => ?_) (fun c_46 => ?_)
        · first | (exfalso; omega) | exact t8_ring_52 hM hk (by have hz := sh_as0 w1; omega) (fun h1 v z1 z2 z3 => ⟨rfl, Or.inr (Or.inr (Or.inr (Or.inl ⟨hk, hl, w1, v, z1, z2, rfl, z3⟩)))⟩) (fun h1 z1 z2 z3 z4 z5 z6 z7 z8 z9 => ⟨rfl, Or.inr (Or.inr (Or.inr (Or.inr ⟨hk, hl, w1, z1, rfl, z2, z3, z4, z5, z6, z7, z8, z9⟩)))⟩) | fail
        · refine am_iload (pc' := 51) dX8_ring_49 rfl rfl ?_
          refine am_reti dX8_ring_51 rfl ?_
          first | (exfalso; omega) | exact ⟨rfl, Or.inr (Or.inr (Or.inl ⟨hk, hl, w1, rfl, rfl⟩))⟩ | fail
      · refine am_istore (pc' := 44) (ls' := [_, _, _, _, _, _, _]) dX8_ring_42 rfl (Nat.le_of_ble_eq_true rfl) rfl rfl ?_
        refine am_iload (pc' := 46) dX8_ring_44 rfl rfl ?_
        refine am_if_ge (pc' := 49) (tgt := 52) dX8_ring_46 rfl rfl (fun c_46 => ?_) (fun c_46 => ?_)
        · first | (exfalso; omega) | exact t8_ring_52 hM hk (by have hz := sh_as0 w1; omega) (fun h1 v z1 z2 z3 => ⟨rfl, Or.inr (Or.inr (Or.inr (Or.inl ⟨hk, hl, w1, v, z1, z2, rfl, z3⟩)))⟩) (fun h1 z1 z2 z3 z4 z5 z6 z7 z8 z9 => ⟨rfl, Or.inr (Or.inr (Or.inr (Or.inr ⟨hk, hl, w1, z1, rfl, z2, z3, z4, z5, z6, z7, z8, z9⟩)))⟩) | fail
        · refine am_iload (pc' := 51) dX8_ring_49 rfl rfl ?_
          refine am_reti dX8_ring_51 rfl ?_
          first | (exfalso; omega) | exact ⟨rfl, Or.inr (Or.inr (Or.inl ⟨hk, hl, w1, rfl, rfl⟩))⟩ | fail
    · simp only [am_z0, am_z1, ne_eq] at c_22
      refine am_aload_n (pc' := 26) dX8_ring_25 rfl rfl rfl ?_
      refine am_bipush (pc' := 28) dX8_ring_26 rfl rfl (by decide) ?_
      refine am_callV0 (pc' := 31) (as := [_]) (ci := 7)  rfl dX8_ring_28 rfl ok_X8_refused ml_X8_117 im_X8_refused se_X8_refused rfl (Nat.le_of_ble_eq_true rfl) rfl (Nat.le_of_ble_eq_true rfl) (by first | assumption | exact ⟨by omega, by omega, rfl⟩) (t8_refused hM) (fun r_28 ρ_28 h_28 q_28 g_28 e_28 => ?_)
      obtain ⟨rfl, rfl, rfl⟩ := q_28
      refine am_reti dX8_ring_31 rfl ?_
      exact ⟨rfl, Or.inr (Or.inl ⟨by omega, by omega, rfl, rfl⟩)⟩
  · simp only [am_z0, am_z1, ne_eq] at c_4
    refine am_aload_n (pc' := 8) dX8_ring_7 rfl rfl rfl ?_
    refine am_iconst (pc' := 9) dX8_ring_8 rfl rfl ?_
    refine am_callV0 (pc' := 12) (as := [_]) (ci := 7)  rfl dX8_ring_9 rfl ok_X8_refused ml_X8_117 im_X8_refused se_X8_refused rfl (Nat.le_of_ble_eq_true rfl) rfl (Nat.le_of_ble_eq_true rfl) (by first | assumption | exact ⟨by omega, by omega, rfl⟩) (t8_refused hM) (fun r_9 ρ_9 h_9 q_9 g_9 e_9 => ?_)
    obtain ⟨rfl, rfl, rfl⟩ := q_9
    refine am_reti dX8_ring_12 rfl ?_
    exact ⟨rfl, Or.inl ⟨by omega, rfl, rfl⟩⟩
