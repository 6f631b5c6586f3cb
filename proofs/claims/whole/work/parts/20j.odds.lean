/-! the model: odds -/
theorem t8_share_l {ρ h : am_H} {a b w : Int} {g : Nat} {Q : am_Q} (ha : 0 ≤ a ∧ a ≤ 7776) (hb : 0 < b ∧ b ≤ 7776) (hg : 0 < g) (hq : Q (some (am_L ((if w = 0 then a else b) / (g : Nat)))) ρ h) :
    ∀ (n : Nat) (x y : Int) (v v' : Option am_V), y < n → 0 ≤ y → y ≤ 7776 → 0 ≤ x → x ≤ 7776 → Nat.gcd x.toNat y.toNat = g → am_WP mX8_share 0 0 6 [some (am_L a), none, some (am_L b), none, some (am_I w), some (am_L x), none, some (am_L y), none, v, v'] [] ρ h Q := by
  intro n
  induction n with
  | zero => intro x y v v' hk; omega
  | succ n ih =>
    intro x y v v' hk y0 y1 x0 x1 hxy
    have hx0 : y = 0 → x = ((g : Nat) : Int) := fun z => by
      rw [z, show Int.toNat 0 = 0 from rfl, Nat.gcd_zero_right] at hxy
      omega
    refine am_lload (pc' := 8) dX8_share_6 rfl rfl ?_
    refine am_lconst0 (pc' := 9) dX8_share_8 rfl ?_
    refine am_lcmp_eq (pc1 := 10) (pc' := 13) (tgt := 31) dX8_share_9 rfl dX8_share_10 rfl rfl (fun c_9 => ?_) (fun c_9 => ?_)
    · have hxg := hx0 (by omega)
      refine am_iload (pc' := 33) dX8_share_31 rfl rfl ?_
      refine am_if_ne (pc' := 36) (tgt := 40) dX8_share_33 rfl rfl (fun c_33 => ?_) (fun c_33 => ?_)
      · refine am_lload_n (pc' := 41) dX8_share_40 rfl rfl rfl ?_
        refine am_lload (pc' := 43) dX8_share_41 rfl rfl ?_
        refine am_ldiv (pc' := 44) dX8_share_43 rfl (by omega) (by omega) ?_
        refine am_retl dX8_share_44 rfl ?_
        rw [hxg]
        first | (rw [if_pos (by omega)] at hq; exact hq) | (rw [if_neg (by omega)] at hq; exact hq) | fail
      · refine am_lload_n (pc' := 37) dX8_share_36 rfl rfl rfl ?_
        refine am_goto (pc' := 41) dX8_share_37 rfl ?_
        refine am_lload (pc' := 43) dX8_share_41 rfl rfl ?_
        refine am_ldiv (pc' := 44) dX8_share_43 rfl (by omega) (by omega) ?_
        refine am_retl dX8_share_44 rfl ?_
        rw [hxg]
        first | (rw [if_pos (by omega)] at hq; exact hq) | (rw [if_neg (by omega)] at hq; exact hq) | fail
    · have r0 := Int.emod_nonneg x (show y ≠ 0 by omega)
      have r1 := Int.emod_lt_of_pos x (show 0 < y by omega)
      refine am_lload (pc' := 15) dX8_share_13 rfl rfl ?_
      refine am_lload (pc' := 17) dX8_share_15 rfl rfl ?_
      refine am_lrem (pc' := 18) dX8_share_17 rfl (by omega) (by omega) ?_
      refine am_lstore (pc' := 20) (ls' := [_, _, _, _, _, _, _, _, _, _, _]) dX8_share_18 rfl (Nat.le_of_ble_eq_true rfl) rfl rfl ?_
      refine am_lload (pc' := 22) dX8_share_20 rfl rfl ?_
      refine am_lstore (pc' := 24) (ls' := [_, _, _, _, _, _, _, _, _, _, _]) dX8_share_22 rfl (Nat.le_of_ble_eq_true rfl) rfl rfl ?_
      refine am_lload (pc' := 26) dX8_share_24 rfl rfl ?_
      refine am_lstore (pc' := 28) (ls' := [_, _, _, _, _, _, _, _, _, _, _]) dX8_share_26 rfl (Nat.le_of_ble_eq_true rfl) rfl rfl ?_
      refine am_goto (pc' := 6) dX8_share_28 rfl ?_
      exact ih _ _ _ _ (by omega) r0 (by omega) (by omega) (by omega) (by rw [cd_rec x0 (by omega)]; exact hxy)
theorem t8_share {ρ h : am_H} {a b w : Int} (ha : 0 ≤ a ∧ a ≤ 7776) (hb : 0 < b ∧ b ≤ 7776) : am_CT mX8_share 0 0 [am_L a, am_L b, am_I w] ρ h (am_P (am_L ((if w = 0 then a else b) / (Nat.gcd a.toNat b.toNat : Nat))) ρ h) := by
  refine am_ct (ls := [some (am_L a), none, some (am_L b), none, some (am_I w), none, none, none, none, none, none]) ok_X8_share rfl (fun _ => Nat.le_of_ble_eq_true rfl) (fun _ => rfl) (by intro v hv; simpa using hv) ?_
  refine am_lload_n (pc' := 1) dX8_share_0 rfl rfl rfl ?_
  refine am_lstore (pc' := 3) (ls' := [_, _, _, _, _, _, _, _, _, _, _]) dX8_share_1 rfl (Nat.le_of_ble_eq_true rfl) rfl rfl ?_
  refine am_lload_n (pc' := 4) dX8_share_3 rfl rfl rfl ?_
  refine am_lstore (pc' := 6) (ls' := [_, _, _, _, _, _, _, _, _, _, _]) dX8_share_4 rfl (Nat.le_of_ble_eq_true rfl) rfl rfl ?_
  exact t8_share_l ha hb (Nat.gcd_pos_of_pos_right _ (by omega)) ⟨rfl, rfl, rfl⟩ (b.toNat + 1) a b _ _ (by omega) (by omega) hb.2 ha.1 ha.2 rfl
theorem t8_odds_l {ρ h0 h : am_H} {N p t v w P B : Int} {nx : Int → Int} {Q : am_Q} (hQ : md_Q ρ h nx N) (hf0 : md_fr h0 h) (eP : h 38 1 = P) (eB : h 38 2 = B) (hp : 0 ≤ p ∧ p < P) (ht : 0 ≤ t ∧ t ≤ 99)
    (hq : ∀ h', md_fr h0 h' → Q (some (am_L (o_odds nx N P B p t v w))) ρ h') :
    ∀ (n : Nat) (r m : Int) (h1 : am_H), (N - r).toNat < n → 0 ≤ r → r ≤ N → (0 ≤ m ∧ m ≤ r) → m = o_cnt nx r P B p t v → am_fr [43, 44] h h1 → am_WP mX8_odds 0 0 57 [some (am_R 38), some (am_I p), some (am_I t), some (am_I v), some (am_I w), some (am_L m), none, some (am_I r)] [] ρ h1 Q := by
  have hN := md_QN hQ
  have hM := hQ.1
  have hn58 := hM.1
  have e1 := am_lm hM 38 11 43 (by decide)
  have l1 := am_lm hM 43 (-1) 5 (by decide)
  have hA := hQ.2.1.1
  have hin := hQ.2.2.2.2.1
  intro n
  induction n with
  | zero => intro r m h1 hk; omega
  | succ n ih =>
    intro r m h1 hk h0' h9 hm he hf
    have hQ1 := md_Q_fr hf hQ
    have g1 : ∀ k, h1 38 k = h 38 k := fun k => hf 38 k (by simp <;> omega)
    have hs : o_cnt nx (r + 1) P B p t v = o_cnt nx r P B p t v + (if dg P B (gi nx t.toNat r) p = v then 1 else 0) := mt_sum_next _ h0'
    have eN : mt_pw (h1 38 2) (h1 38 1).toNat = N := hQ1.2.2.1.symm
    refine am_iload (pc' := 59) dX8_odds_57 rfl rfl ?_
    refine am_aload_n (pc' := 60) dX8_odds_59 rfl rfl rfl ?_
    refine am_callVp (pc' := 63) (as := []) (ci := 7)  rfl dX8_odds_60 rfl ok_X8_allRows ml_X8_170 im_X8_allRows se_X8_allRows rfl (Nat.le_of_ble_eq_true rfl) rfl (Nat.le_of_ble_eq_true rfl) (by first | assumption | exact ⟨by omega, by omega, rfl⟩) (t8_allRows hM hQ1.2.1) ?_
    rw [eN]
    refine am_icmp_ge (pc' := 66) (tgt := 104) dX8_odds_63 rfl rfl (fun c_63 => ?_) (fun c_63 => ?_)
    · refine am_lload (pc' := 106) dX8_odds_104 rfl rfl ?_
      refine am_aload_n (pc' := 107) dX8_odds_106 rfl rfl rfl ?_
      refine am_callVp (pc' := 110) (as := []) (ci := 7)  rfl dX8_odds_107 rfl ok_X8_allRows ml_X8_170 im_X8_allRows se_X8_allRows rfl (Nat.le_of_ble_eq_true rfl) rfl (Nat.le_of_ble_eq_true rfl) (by first | assumption | exact ⟨by omega, by omega, rfl⟩) (t8_allRows hM hQ1.2.1) ?_
      rw [eN]
      refine am_i2l (pc' := 111) dX8_odds_110 rfl ?_
      refine am_iload (pc' := 113) dX8_odds_111 rfl rfl ?_
      refine am_callSp (pc' := 116) (as := [_, _, _])  rfl dX8_odds_113 rfl ok_X8_share ml_X8_250 sm_X8_share (Nat.le_of_ble_eq_true rfl) rfl (Nat.le_of_ble_eq_true rfl) (t8_share (by omega) (by omega)) ?_
      refine am_retl dX8_odds_116 rfl ?_
      have er : r = N := by omega
      rw [he, er]
      exact hq h1 (md_fr_t hf0 (md_fr_43 hf))
    · have ga := gi_in hin h0' (show r < N by omega) t.toNat
      refine am_aload_n (pc' := 67) dX8_odds_66 rfl rfl rfl ?_
      refine am_aload_n (pc' := 68) dX8_odds_67 rfl rfl rfl ?_
      refine am_iload (pc' := 70) dX8_odds_68 rfl rfl ?_
      refine am_iload_n (pc' := 71) dX8_odds_70 rfl rfl rfl ?_
      refine am_i2l (pc' := 72) dX8_odds_71 rfl ?_
      refine am_callVp (pc' := 75) (as := [_, _]) (ci := 7)  rfl dX8_odds_72 rfl ok_X8_behind ml_X8_182 im_X8_behind se_X8_behind rfl (Nat.le_of_ble_eq_true rfl) rfl (Nat.le_of_ble_eq_true rfl) (by first | assumption | exact ⟨by omega, by omega, rfl⟩) (t8_behind hQ1 ⟨h0', by omega⟩ (by omega)) ?_
      refine am_callV0 (pc' := 78) (as := [_]) (ci := 7)  rfl dX8_odds_75 rfl ok_X8_takesRow ml_X8_173 im_X8_takesRow se_X8_takesRow rfl (Nat.le_of_ble_eq_true rfl) rfl (Nat.le_of_ble_eq_true rfl) (by first | assumption | exact ⟨by omega, by omega, rfl⟩) (t8_takesRow hM hQ1.2.1 (by omega)) (fun r_75 ρ_75 h_75 q_75 g_75 e_75 => ?_)
      obtain ⟨rfl, rfl, q1, q2⟩ := q_75
      have hv : h_75 43 p = dg P B (gi nx t.toNat r) p := by rw [q2 p hp.1 (by rw [g1]; omega), g1, g1, eP, eB]
      have hf2 : am_fr [43, 44] h h_75 := am_fr_trans hf (am_fr_sub q1 (by intro x hx; simp at hx ⊢; omega))
      refine am_lload (pc' := 80) dX8_odds_78 rfl rfl ?_
      refine am_aload_n (pc' := 81) dX8_odds_80 rfl rfl rfl ?_
      refine am_getRk (ki := 11) (pc' := 84) (k := 11) (ci := 7) rfl dX8_odds_81 rfl fl_X8_22 (by first | assumption | exact ⟨by omega, by omega, rfl⟩) rfl (by assumption) (by omega) ?_
      refine am_iload_n (pc' := 85) dX8_odds_84 rfl rfl rfl ?_
      refine am_iaload (pc' := 86) dX8_odds_85 rfl (by first | assumption | exact ⟨by omega, by omega, rfl⟩) (by omega) (by omega) ?_
      rw [hv]
      refine am_iload_n (pc' := 87) dX8_odds_86 rfl rfl rfl ?_
      refine am_icmp_ne (pc' := 90) (tgt := 94) dX8_odds_87 rfl rfl (fun c_87 => ?_) (fun c_87 => ?_)
      · refine am_lconst0 (pc' := 95) dX8_odds_94 rfl ?_
        refine am_ladd (pc' := 96) dX8_odds_95 rfl ⟨by omega, by omega⟩ ?_
        refine am_lstore (pc' := 98) (ls' := [_, _, _, _, _, _, _, _]) dX8_odds_96 rfl (Nat.le_of_ble_eq_true rfl) rfl rfl ?_
        refine am_iinc (pc' := 101) (ls' := [_, _, _, _, _, _, _, _]) dX8_odds_98 rfl rfl ⟨by omega, by omega⟩ (Nat.le_of_ble_eq_true rfl) rfl rfl ?_
        refine am_goto (pc' := 57) dX8_odds_101 rfl ?_
        first | exact ih _ _ _ (by omega) (by omega) (by omega) (by omega) (by rw [hs, if_pos c_87, he]) hf2 | exact ih _ _ _ (by omega) (by omega) (by omega) (by omega) (by rw [hs, if_neg c_87, he]) hf2 | fail
      · refine am_lconst1 (pc' := 91) dX8_odds_90 rfl ?_
        refine am_goto (pc' := 95) dX8_odds_91 rfl ?_
        refine am_ladd (pc' := 96) dX8_odds_95 rfl ⟨by omega, by omega⟩ ?_
        refine am_lstore (pc' := 98) (ls' := [_, _, _, _, _, _, _, _]) dX8_odds_96 rfl (Nat.le_of_ble_eq_true rfl) rfl rfl ?_
        refine am_iinc (pc' := 101) (ls' := [_, _, _, _, _, _, _, _]) dX8_odds_98 rfl rfl ⟨by omega, by omega⟩ (Nat.le_of_ble_eq_true rfl) rfl rfl ?_
        refine am_goto (pc' := 57) dX8_odds_101 rfl ?_
        first | exact ih _ _ _ (by omega) (by omega) (by omega) (by omega) (by rw [hs, if_pos c_87, he]) hf2 | exact ih _ _ _ (by omega) (by omega) (by omega) (by omega) (by rw [hs, if_neg c_87, he]) hf2 | fail
theorem t8_odds {ρ h : am_H} {p t v w : Int} (hM : am_LM ρ) (hR : md_R h) : am_CT mX8_odds 0 0 [am_R 38, am_I p, am_I t, am_I v, am_I w] ρ h (fun r ρ' h' => ρ' = ρ ∧ md_fr h h' ∧ ((¬ ((0 ≤ p ∧ p < h 38 1) ∧ ((0 ≤ t ∧ t ≤ 99) ∧ 0 ≤ v ∧ v ≤ 5) ∧ 0 ≤ w ∧ w ≤ 1) ∧ r = some (am_L (-9223372036854775808))) ∨ (((0 ≤ p ∧ p < h 38 1) ∧ ((0 ≤ t ∧ t ≤ 99) ∧ 0 ≤ v ∧ v ≤ 5) ∧ 0 ≤ w ∧ w ≤ 1) ∧ r = some (am_L (o_odds (md_nx h) (md_N h) (h 38 1) (h 38 2) p t v w))))) := by
  have hn58 := hM.1
  have hP5 := (md_P5 hR).1
  refine am_ct (ls := [some (am_R 38), some (am_I p), some (am_I t), some (am_I v), some (am_I w), none, none, none]) ok_X8_odds rfl (fun _ => Nat.le_of_ble_eq_true rfl) (fun _ => rfl) (by intro v hv; simpa using hv) ?_
  refine am_aload_n (pc' := 1) dX8_odds_0 rfl rfl rfl ?_
  refine am_iload_n (pc' := 2) dX8_odds_1 rfl rfl rfl ?_
  refine am_callVp (pc' := 5) (as := [_]) (ci := 7)  rfl dX8_odds_2 rfl ok_X8_noPlace ml_X8_149 im_X8_noPlace se_X8_noPlace rfl (Nat.le_of_ble_eq_true rfl) rfl (Nat.le_of_ble_eq_true rfl) (by first | assumption | exact ⟨by omega, by omega, rfl⟩) (t8_noPlace hM hP5) ?_
  refine am_if_ne (pc' := 8) (tgt := 43) dX8_odds_5 rfl rfl (fun c_5 => ?_) (fun c_5 => ?_)
  · simp only [am_z0, am_z1, ne_eq] at c_5
    refine am_callSp (pc' := 46) (as := [])  rfl dX8_odds_43 rfl ok_X8_lost ml_X8_73 sm_X8_lost (Nat.le_of_ble_eq_true rfl) rfl (Nat.le_of_ble_eq_true rfl) (t8_lost) ?_
    refine am_retl dX8_odds_46 rfl ?_
    exact ⟨rfl, md_fr_r, Or.inl ⟨by omega, rfl⟩⟩
  · simp only [am_z0, am_z1, ne_eq] at c_5
    refine am_iload_n (pc' := 9) dX8_odds_8 rfl rfl rfl ?_
    refine am_i2l (pc' := 10) dX8_odds_9 rfl ?_
    refine am_lconst0 (pc' := 11) dX8_odds_10 rfl ?_
    refine am_ldc2 (pc' := 14) (x := 99) dX8_odds_11 rfl kl_X8_158 rfl rfl ?_
    refine am_callSp (pc' := 17) (as := [_, _, _])  rfl dX8_odds_14 rfl ok_X8_in ml_X8_80 sm_X8_in (Nat.le_of_ble_eq_true rfl) rfl (Nat.le_of_ble_eq_true rfl) (t8_in) ?_
    refine am_if_eq (pc' := 20) (tgt := 43) dX8_odds_17 rfl rfl (fun c_17 => ?_) (fun c_17 => ?_)
    · simp only [am_z0, am_z1, ne_eq] at c_17
      refine am_callSp (pc' := 46) (as := [])  rfl dX8_odds_43 rfl ok_X8_lost ml_X8_73 sm_X8_lost (Nat.le_of_ble_eq_true rfl) rfl (Nat.le_of_ble_eq_true rfl) (t8_lost) ?_
      refine am_retl dX8_odds_46 rfl ?_
      exact ⟨rfl, md_fr_r, Or.inl ⟨by omega, rfl⟩⟩
    · simp only [am_z0, am_z1, ne_eq] at c_17
      refine am_iload_n (pc' := 21) dX8_odds_20 rfl rfl rfl ?_
      refine am_i2l (pc' := 22) dX8_odds_21 rfl ?_
      refine am_lconst0 (pc' := 23) dX8_odds_22 rfl ?_
      refine am_ldc2 (pc' := 26) (x := 5) dX8_odds_23 rfl kl_X8_226 rfl rfl ?_
      refine am_callSp (pc' := 29) (as := [_, _, _])  rfl dX8_odds_26 rfl ok_X8_in ml_X8_80 sm_X8_in (Nat.le_of_ble_eq_true rfl) rfl (Nat.le_of_ble_eq_true rfl) (t8_in) ?_
      refine am_if_eq (pc' := 32) (tgt := 43) dX8_odds_29 rfl rfl (fun c_29 => ?_) (fun c_29 => ?_)
      · simp only [am_z0, am_z1, ne_eq] at c_29
        refine am_callSp (pc' := 46) (as := [])  rfl dX8_odds_43 rfl ok_X8_lost ml_X8_73 sm_X8_lost (Nat.le_of_ble_eq_true rfl) rfl (Nat.le_of_ble_eq_true rfl) (t8_lost) ?_
        refine am_retl dX8_odds_46 rfl ?_
        exact ⟨rfl, md_fr_r, Or.inl ⟨by omega, rfl⟩⟩
      · simp only [am_z0, am_z1, ne_eq] at c_29
        refine am_iload (pc' := 34) dX8_odds_32 rfl rfl ?_
        refine am_i2l (pc' := 35) dX8_odds_34 rfl ?_
        refine am_lconst0 (pc' := 36) dX8_odds_35 rfl ?_
        refine am_lconst1 (pc' := 37) dX8_odds_36 rfl ?_
        refine am_callSp (pc' := 40) (as := [_, _, _])  rfl dX8_odds_37 rfl ok_X8_in ml_X8_80 sm_X8_in (Nat.le_of_ble_eq_true rfl) rfl (Nat.le_of_ble_eq_true rfl) (t8_in) ?_
        refine am_if_ne (pc' := 43) (tgt := 47) dX8_odds_40 rfl rfl (fun c_40 => ?_) (fun c_40 => ?_)
        · simp only [am_z0, am_z1, ne_eq] at c_40
          have hP0 : h 38 1 ≠ 0 := by omega
          obtain ⟨hA, hnm, hkd⟩ := md_RA hR hP0
          refine am_aload_n (pc' := 48) dX8_odds_47 rfl rfl rfl ?_
          refine am_callV0 (pc' := 51) (as := []) (ci := 7)  rfl dX8_odds_48 rfl ok_X8_tables ml_X8_194 im_X8_tables se_X8_tables rfl (Nat.le_of_ble_eq_true rfl) rfl (Nat.le_of_ble_eq_true rfl) (by first | assumption | exact ⟨by omega, by omega, rfl⟩) (t8_tables hM hA) (fun r_48 ρ_48 h_48 q_48 g_48 e_48 => ?_)
          obtain ⟨hQ, hfr, hbr⟩ := md_go hM hR hP0 am_fr_refl q_48
          obtain ⟨rfl, rfl, _⟩ := q_48
          have hN := md_QN hQ
          refine am_lconst0 (pc' := 52) dX8_odds_51 rfl ?_
          refine am_lstore (pc' := 54) (ls' := [_, _, _, _, _, _, _, _]) dX8_odds_52 rfl (Nat.le_of_ble_eq_true rfl) rfl rfl ?_
          refine am_iconst (pc' := 55) dX8_odds_54 rfl rfl ?_
          refine am_istore (pc' := 57) (ls' := [_, _, _, _, _, _, _, _]) dX8_odds_55 rfl (Nat.le_of_ble_eq_true rfl) rfl rfl ?_
          exact t8_odds_l hQ hfr (hfr.2 1 (by omega)) (hfr.2 2 (by omega)) (by omega) (by omega) (fun h' a => ⟨rfl, a, Or.inr ⟨by omega, rfl⟩⟩) ((md_N h).toNat + 1) 0 0 _ (by omega) (by omega) (by omega) (by omega) rfl am_fr_refl
        · simp only [am_z0, am_z1, ne_eq] at c_40
          refine am_callSp (pc' := 46) (as := [])  rfl dX8_odds_43 rfl ok_X8_lost ml_X8_73 sm_X8_lost (Nat.le_of_ble_eq_true rfl) rfl (Nat.le_of_ble_eq_true rfl) (t8_lost) ?_
          refine am_retl dX8_odds_46 rfl ?_
          exact ⟨rfl, md_fr_r, Or.inl ⟨by omega, rfl⟩⟩
