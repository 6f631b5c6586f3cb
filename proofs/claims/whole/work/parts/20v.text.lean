/-! the model: a place read -/
def md_cd (c : Int → Int) (n t : Int) : Int := if t < n then c t else -9
theorem md_cdp {c : Int → Int} {n t : Int} (h : t < n) : md_cd c n t = c t := by
  unfold md_cd
  rw [if_pos h]
theorem md_cde {c : Int → Int} {n t v : Int} (h : md_cd c n t = v) (hv : v ≠ -9) : t < n ∧ c t = v := by
  unfold md_cd at h
  split at h
  · exact ⟨by assumption, h⟩
  · exact absurd h.symm hv
theorem tx_w {c : Int} (h : am_okI c) : am_w (c - 48) = c - 48 ∨ (c < 0 ∧ 1000 < am_w (c - 48)) := by
  unfold am_okI at h
  by_cases z : -2147483600 ≤ c
  · exact Or.inl (am_w_id ⟨by omega, by omega⟩)
  · refine Or.inr ⟨by omega, ?_⟩
    have e : am_w (c - 48) = am_w (c - 48 + 4294967296) := by
      unfold am_w
      rw [Int32.toInt_ofInt, Int32.toInt_ofInt]
      exact (Int.add_bmod_right _ 4294967296).symm
    rw [e, am_w_id ⟨by omega, by omega⟩]
    omega
theorem tx_bad {c : Int → Int} {n v : Int} (h0 : 0 ≤ v ∧ v ≤ n) (h1 : ∀ t, 0 ≤ t → t < v → tx_on t (c t) (c 1 - 48) = true) (h2 : v < n → tx_on v (c v) (c 1 - 48) = false) (h3 : v = n → ¬ (8 ≤ n ∧ (n - 2) % 3 = 0)) : tx_ff c n v := by
  by_cases z : v < n
  · exact Or.inr (Or.inl ⟨h0.1, z, h2 z, h1⟩)
  · have e : v = n := by omega
    exact Or.inr (Or.inr ⟨e, by omega, h3 e, fun t t0 t1 => h1 t t0 (by omega)⟩)
theorem tx_on0 {q c b : Int} (h : 0 ≤ q) : tx_on (2 + 3 * q) c b = decide (c = 59 ∧ q < 5) := by
  unfold tx_on
  rw [if_neg (by omega), if_neg (by omega), if_pos (by omega), show (2 + 3 * q - 2) / 3 = q by omega]
theorem tx_on1 {q c b : Int} (h : 0 ≤ q) : tx_on (2 + 3 * q + 1) c b = decide (c = 112 ∨ c = 102 ∨ c = 109) := by
  unfold tx_on
  rw [if_neg (by omega), if_neg (by omega), if_neg (by omega), if_pos (by omega)]
theorem tx_on2 {q c b : Int} (h : 0 ≤ q) : tx_on (2 + 3 * q + 1 + 1) c b = decide (48 ≤ c ∧ c < 48 + b) := by
  unfold tx_on
  rw [if_neg (by omega), if_neg (by omega), if_neg (by omega), if_neg (by omega)]
theorem t8_codeC {ρ h : am_H} {b n a : Int} {c : Int → Int} (hM : am_LM ρ) (hb : 0 ≤ b ∧ b + n ≤ 240 ∧ 0 ≤ n ∧ n ≤ 60) (ha : h 38 6 = a) (h0 : 0 ≤ a ∧ a ≤ n) (hc : ∀ t, 0 ≤ t → t < n → h 56 (b + t) = c t) : am_CT mX8_codeAt 0 0 [am_R 38, am_I b, am_I n] ρ h (am_P (am_I (md_cd c n a)) ρ h) := by
  have k := t8_codeAt (ρ := ρ) (h := h) hM hb (by omega)
  have e : (if h 38 6 < n then h 56 (b + h 38 6) else -9) = md_cd c n a := by
    unfold md_cd
    rw [ha]
    by_cases z : a < n
    · rw [if_pos z, if_pos z, hc a h0.1 z]
    · rw [if_neg z, if_neg z]
  rw [e] at k
  exact k
def md_rd (h : am_H) (c : Int → Int) (q : Int) : Prop := (0 ≤ q ∧ q ≤ 5) ∧ h 38 7 = q ∧ h 38 6 = 2 + 3 * q ∧ h 38 8 = c 1 - 48 ∧ (2 ≤ h 38 8 ∧ h 38 8 ≤ 6) ∧ (∀ t, 0 ≤ t → t < 2 + 3 * q → tx_on t (c t) (c 1 - 48) = true) ∧ ∀ p, 0 ≤ p → p < q → h 41 p = tx_kd (c (2 + 3 * p + 1)) ∧ h 42 p = c (2 + 3 * p + 2) - 48
def md_rf (h h' : am_H) : Prop := am_fr [38, 41, 42] h h' ∧ ∀ k, k ≠ 6 → k ≠ 7 → k ≠ 8 → h' 38 k = h 38 k
theorem md_rf_refl {h : am_H} : md_rf h h := ⟨am_fr_refl, fun _ _ _ _ => rfl⟩
theorem md_rf_trans {h h1 h2 : am_H} (a : md_rf h h1) (b : md_rf h1 h2) : md_rf h h2 := ⟨am_fr_trans a.1 b.1, fun k z1 z2 z3 => (b.2 k z1 z2 z3).trans (a.2 k z1 z2 z3)⟩
theorem md_rf_s {h h1 : am_H} {j v : Int} (a : md_rf h h1) (hj : j = 6 ∨ j = 7 ∨ j = 8) : md_rf h (am_u h1 38 j v) := ⟨am_fr_u a.1 (by simp <;> omega), fun k z1 z2 z3 => by rw [am_u_n (by omega)]; exact a.2 k z1 z2 z3⟩
theorem md_rf_r {h h1 : am_H} {x j v : Int} (a : md_rf h h1) (hj : x = 41 ∨ x = 42) : md_rf h (am_u h1 x j v) := ⟨am_fr_u a.1 (by simp <;> omega), fun k z1 z2 z3 => by rw [am_u_n (by omega)]; exact a.2 k z1 z2 z3⟩
theorem t8_readsPlace {ρ h : am_H} {b n q : Int} {c : Int → Int} (hM : am_LM ρ) (hb : 0 ≤ b ∧ b + n ≤ 240 ∧ 0 ≤ n ∧ n ≤ 60) (hc : ∀ t, 0 ≤ t → t < n → h 56 (b + t) = c t) (hr : md_rd h c q) (hq : 2 + 3 * q ≤ n ∧ (q < 2 ∨ 2 + 3 * q < n)) : am_CT mX8_readsPlace 0 0 [am_R 38, am_I b, am_I n] ρ h (fun r ρ' h' => ρ' = ρ ∧ md_rf h h' ∧ ((r = some (am_I 1) ∧ md_rd h' c (q + 1) ∧ 2 + 3 * (q + 1) ≤ n) ∨ (r = some (am_I 0) ∧ tx_ff c n (h' 38 6) ∧ 0 ≤ h' 38 6 ∧ h' 38 6 ≤ n))) := by
  have hn58 := hM.1
  obtain ⟨q5, e7, e6, e8, r8, hall, hrow⟩ := id hr
  have x1 := am_lm hM 38 9 41 (by decide)
  have x2 := am_lm hM 38 10 42 (by decide)
  have l1 := am_lm hM 41 (-1) 5 (by decide)
  have l2 := am_lm hM 42 (-1) 5 (by decide)
  have hcu : ∀ k v t, 0 ≤ t → t < n → am_u h 38 k v 56 (b + t) = c t := fun k v t t0 t1 => by rw [am_u_n (by omega)]; exact hc t t0 t1
  have F0 : (q = 5 ∨ md_cd c n (2 + 3 * q) ≠ 59) → tx_ff c n (2 + 3 * q) := fun z => by
    refine tx_bad (by omega) hall (fun y => ?_) (by omega)
    rw [tx_on0 q5.1]
    rcases z with z | z
    · exact decide_eq_false (by omega)
    · rw [md_cdp y] at z
      exact decide_eq_false (fun w => z w.1)
  have A0 : md_cd c n (2 + 3 * q) = 59 → q ≠ 5 → ∀ t, 0 ≤ t → t < 2 + 3 * q + 1 → tx_on t (c t) (c 1 - 48) = true := fun z y => am_upto hall (by rw [tx_on0 q5.1]; exact decide_eq_true ⟨(md_cde z (by decide)).2, by omega⟩)
  have F1 : md_cd c n (2 + 3 * q) = 59 → q ≠ 5 → (md_cd c n (2 + 3 * q + 1) ≠ 112 ∧ md_cd c n (2 + 3 * q + 1) ≠ 102 ∧ md_cd c n (2 + 3 * q + 1) ≠ 109) → tx_ff c n (2 + 3 * q + 1) := fun z y w => by
    have z2 := md_cde z (by decide)
    refine tx_bad (by omega) (A0 z y) (fun y => ?_) (by omega)
    rw [tx_on1 q5.1]
    rw [md_cdp y] at w
    exact decide_eq_false (by omega)
  have A1 : md_cd c n (2 + 3 * q) = 59 → q ≠ 5 → (md_cd c n (2 + 3 * q + 1) = 112 ∨ md_cd c n (2 + 3 * q + 1) = 102 ∨ md_cd c n (2 + 3 * q + 1) = 109) → (2 + 3 * q + 1 < n ∧ md_cd c n (2 + 3 * q + 1) = c (2 + 3 * q + 1)) ∧ ∀ t, 0 ≤ t → t < 2 + 3 * q + 1 + 1 → tx_on t (c t) (c 1 - 48) = true := fun z y w => by
    have z2 : 2 + 3 * q + 1 < n ∧ md_cd c n (2 + 3 * q + 1) = c (2 + 3 * q + 1) := by
      by_cases u : 2 + 3 * q + 1 < n
      · exact ⟨u, md_cdp u⟩
      · unfold md_cd at w
        rw [if_neg u] at w
        omega
    refine ⟨z2, am_upto (A0 z y) ?_⟩
    rw [tx_on1 q5.1]
    rw [z2.2] at w
    exact decide_eq_true w
  refine am_ct (ls := [some (am_R 38), some (am_I b), some (am_I n), none, none]) ok_X8_readsPlace rfl (fun _ => Nat.le_of_ble_eq_true rfl) (fun _ => rfl) (by intro v hv; simpa using hv) ?_
  refine am_WPrng (fun hrn => ?_)
  have ok2 : am_okI (md_cd c n (2 + 3 * q + 1 + 1)) := by
    unfold md_cd
    split
    · rw [← hc _ (by omega) (by omega)]; exact hrn.2.1 _ _
    · exact ⟨by decide, by decide⟩
  have hw := tx_w ok2
  refine am_aload_n (pc' := 1) dX8_readsPlace_0 rfl rfl rfl ?_
  refine am_getIk (ki := 7) (pc' := 4) (k := 7) (ci := 7) rfl dX8_readsPlace_1 rfl fl_X8_87 (by first | assumption | exact ⟨by omega, by omega, rfl⟩) rfl ?_
  rw [e7]
  refine am_iconst (pc' := 5) dX8_readsPlace_4 rfl rfl ?_
  refine am_icmp_eq (pc' := 8) (tgt := 19) dX8_readsPlace_5 rfl rfl (fun c_5 => ?_) (fun c_5 => ?_)
  · refine am_iconst (pc' := 20) dX8_readsPlace_19 rfl rfl ?_
    refine am_retz dX8_readsPlace_20 rfl (by first | exact Or.inl rfl | exact Or.inr rfl | omega) ?_
    exact ⟨rfl, md_rf_refl, Or.inr ⟨rfl, by rw [e6]; exact F0 (by omega), by omega, by omega⟩⟩
  · refine am_aload_n (pc' := 9) dX8_readsPlace_8 rfl rfl rfl ?_
    refine am_iload_n (pc' := 10) dX8_readsPlace_9 rfl rfl rfl ?_
    refine am_iload_n (pc' := 11) dX8_readsPlace_10 rfl rfl rfl ?_
    refine am_callVp (pc' := 14) (as := [_, _]) (ci := 7)  rfl dX8_readsPlace_11 rfl ok_X8_codeAt ml_X8_90 im_X8_codeAt se_X8_codeAt rfl (Nat.le_of_ble_eq_true rfl) rfl (Nat.le_of_ble_eq_true rfl) (by first | assumption | exact ⟨by omega, by omega, rfl⟩) (t8_codeC (c := c) hM hb e6 (by omega) hc) ?_
    refine am_bipush (pc' := 16) dX8_readsPlace_14 rfl rfl (by decide) ?_
    refine am_icmp_eq (pc' := 19) (tgt := 21) dX8_readsPlace_16 rfl rfl (fun c_16 => ?_) (fun c_16 => ?_)
    · have y1 : md_cd c n (2 + 3 * q) = 59 := c_16
      have y2 : q ≠ 5 := c_5
      have y3 := (md_cde y1 (by decide)).1
      refine am_aload_n (pc' := 22) dX8_readsPlace_21 rfl rfl rfl ?_
      first | refine am_dupR (pc' := 23) dX8_readsPlace_22 rfl ?_ | refine am_dupI (pc' := 23) dX8_readsPlace_22 rfl ?_
      refine am_getIk (ki := 6) (pc' := 26) (k := 6) (ci := 7) rfl dX8_readsPlace_23 rfl fl_X8_84 (by first | assumption | exact ⟨by omega, by omega, rfl⟩) rfl ?_
      rw [e6]
      refine am_iconst (pc' := 27) dX8_readsPlace_26 rfl rfl ?_
      refine am_iadd (pc' := 28) dX8_readsPlace_27 rfl ⟨by omega, by omega⟩ ?_
      refine am_putIk (ki := 6) (pc' := 31) (k := 6) (ci := 7) rfl dX8_readsPlace_28 rfl fl_X8_84 (by first | assumption | exact ⟨by omega, by omega, rfl⟩) rfl (fun _ _ _ e => by cases e; rfl) ?_
      refine am_aload_n (pc' := 32) dX8_readsPlace_31 rfl rfl rfl ?_
      refine am_iload_n (pc' := 33) dX8_readsPlace_32 rfl rfl rfl ?_
      refine am_iload_n (pc' := 34) dX8_readsPlace_33 rfl rfl rfl ?_
      refine am_callVp (pc' := 37) (as := [_, _]) (ci := 7)  rfl dX8_readsPlace_34 rfl ok_X8_codeAt ml_X8_90 im_X8_codeAt se_X8_codeAt rfl (Nat.le_of_ble_eq_true rfl) rfl (Nat.le_of_ble_eq_true rfl) (by first | assumption | exact ⟨by omega, by omega, rfl⟩) (t8_codeC (c := c) (a := 2 + 3 * q + 1) hM hb (am_u_s _ _ _ _) (by omega) (hcu _ _)) ?_
      refine am_istore_n (pc' := 38) (ls' := [_, _, _, _, _]) dX8_readsPlace_37 rfl rfl (Nat.le_of_ble_eq_true rfl) rfl rfl ?_
      refine am_iload_n (pc' := 39) dX8_readsPlace_38 rfl rfl rfl ?_
      refine am_bipush (pc' := 41) dX8_readsPlace_39 rfl rfl (by decide) ?_
      refine am_icmp_eq (pc' := 44) (tgt := 58) dX8_readsPlace_41 rfl rfl (fun c_41 => ?_) (fun c_41 => ?_)
      · have y4 := A1 y1 y2 (by omega)
        refine am_aload_n (pc' := 59) dX8_readsPlace_58 rfl rfl rfl ?_
        first | refine am_dupR (pc' := 60) dX8_readsPlace_59 rfl ?_ | refine am_dupI (pc' := 60) dX8_readsPlace_59 rfl ?_
        refine am_getIk (ki := 6) (pc' := 63) (k := 6) (ci := 7) rfl dX8_readsPlace_60 rfl fl_X8_84 (by first | assumption | exact ⟨by omega, by omega, rfl⟩) rfl ?_
        rw [am_u_s]
        refine am_iconst (pc' := 64) dX8_readsPlace_63 rfl rfl ?_
        refine am_iadd (pc' := 65) dX8_readsPlace_64 rfl ⟨by omega, by omega⟩ ?_
        refine am_putIk (ki := 6) (pc' := 68) (k := 6) (ci := 7) rfl dX8_readsPlace_65 rfl fl_X8_84 (by first | assumption | exact ⟨by omega, by omega, rfl⟩) rfl (fun _ _ _ e => by cases e; rfl) ?_
        rw [am_uu]
        refine am_aload_n (pc' := 69) dX8_readsPlace_68 rfl rfl rfl ?_
        refine am_iload_n (pc' := 70) dX8_readsPlace_69 rfl rfl rfl ?_
        refine am_iload_n (pc' := 71) dX8_readsPlace_70 rfl rfl rfl ?_
        refine am_callVp (pc' := 74) (as := [_, _]) (ci := 7)  rfl dX8_readsPlace_71 rfl ok_X8_codeAt ml_X8_90 im_X8_codeAt se_X8_codeAt rfl (Nat.le_of_ble_eq_true rfl) rfl (Nat.le_of_ble_eq_true rfl) (by first | assumption | exact ⟨by omega, by omega, rfl⟩) (t8_codeC (c := c) (a := 2 + 3 * q + 1 + 1) hM hb (am_u_s _ _ _ _) (by omega) (hcu _ _)) ?_
        refine am_bipush (pc' := 76) dX8_readsPlace_74 rfl rfl (by decide) ?_
        refine am_isubw (pc' := 77) dX8_readsPlace_76 rfl ?_
        refine am_istore (pc' := 79) (ls' := [_, _, _, _, _]) dX8_readsPlace_77 rfl (Nat.le_of_ble_eq_true rfl) rfl rfl ?_
        refine am_iload (pc' := 81) dX8_readsPlace_79 rfl rfl ?_
        refine am_i2l (pc' := 82) dX8_readsPlace_81 rfl ?_
        refine am_lconst0 (pc' := 83) dX8_readsPlace_82 rfl ?_
        refine am_aload_n (pc' := 84) dX8_readsPlace_83 rfl rfl rfl ?_
        refine am_getIk (ki := 8) (pc' := 87) (k := 8) (ci := 7) rfl dX8_readsPlace_84 rfl fl_X8_94 (by first | assumption | exact ⟨by omega, by omega, rfl⟩) rfl ?_
        rw [am_u_n (by omega)]
        refine am_i2l (pc' := 88) dX8_readsPlace_87 rfl ?_
        refine am_lconst1 (pc' := 89) dX8_readsPlace_88 rfl ?_
        refine am_lsub (pc' := 90) dX8_readsPlace_89 rfl ⟨by omega, by omega⟩ ?_
        refine am_callSp (pc' := 93) (as := [_, _, _])  rfl dX8_readsPlace_90 rfl ok_X8_in ml_X8_80 sm_X8_in (Nat.le_of_ble_eq_true rfl) rfl (Nat.le_of_ble_eq_true rfl) (t8_in) ?_
        refine am_if_ne (pc' := 96) (tgt := 98) dX8_readsPlace_93 rfl rfl (fun c_93 => ?_) (fun c_93 => ?_)
        · simp only [am_z0, am_z1, ne_eq] at c_93
          have y5 : 48 ≤ md_cd c n (2 + 3 * q + 1 + 1) ∧ am_w (md_cd c n (2 + 3 * q + 1 + 1) - 48) = md_cd c n (2 + 3 * q + 1 + 1) - 48 := by omega
          have y6 : 2 + 3 * q + 1 + 1 < n ∧ md_cd c n (2 + 3 * q + 1 + 1) = c (2 + 3 * q + 1 + 1) := by
            by_cases u : 2 + 3 * q + 1 + 1 < n
            · exact ⟨u, md_cdp u⟩
            · unfold md_cd at y5
              rw [if_neg u] at y5
              omega
          rw [y5.2, y6.2]
          rw [y5.2, y6.2] at c_93
          rw [y4.1.2]
          refine am_aload_n (pc' := 99) dX8_readsPlace_98 rfl rfl rfl ?_
          first | refine am_dupR (pc' := 100) dX8_readsPlace_99 rfl ?_ | refine am_dupI (pc' := 100) dX8_readsPlace_99 rfl ?_
          refine am_getIk (ki := 6) (pc' := 103) (k := 6) (ci := 7) rfl dX8_readsPlace_100 rfl fl_X8_84 (by first | assumption | exact ⟨by omega, by omega, rfl⟩) rfl ?_
          rw [am_u_s]
          refine am_iconst (pc' := 104) dX8_readsPlace_103 rfl rfl ?_
          refine am_iadd (pc' := 105) dX8_readsPlace_104 rfl ⟨by omega, by omega⟩ ?_
          refine am_putIk (ki := 6) (pc' := 108) (k := 6) (ci := 7) rfl dX8_readsPlace_105 rfl fl_X8_84 (by first | assumption | exact ⟨by omega, by omega, rfl⟩) rfl (fun _ _ _ e => by cases e; rfl) ?_
          rw [am_uu]
          refine am_aload_n (pc' := 109) dX8_readsPlace_108 rfl rfl rfl ?_
          refine am_getRk (ki := 9) (pc' := 112) (k := 9) (ci := 7) rfl dX8_readsPlace_109 rfl fl_X8_16 (by first | assumption | exact ⟨by omega, by omega, rfl⟩) rfl (by assumption) (by omega) ?_
          refine am_aload_n (pc' := 113) dX8_readsPlace_112 rfl rfl rfl ?_
          refine am_getIk (ki := 7) (pc' := 116) (k := 7) (ci := 7) rfl dX8_readsPlace_113 rfl fl_X8_87 (by first | assumption | exact ⟨by omega, by omega, rfl⟩) rfl ?_
          rw [am_u_n (by omega), e7]
          refine am_iload_n (pc' := 117) dX8_readsPlace_116 rfl rfl rfl ?_
          refine am_bipush (pc' := 119) dX8_readsPlace_117 rfl rfl (by decide) ?_
          refine am_icmp_ne (pc' := 122) (tgt := 126) dX8_readsPlace_119 rfl rfl (fun c_119 => ?_) (fun c_119 => ?_)
          · refine am_iload_n (pc' := 127) dX8_readsPlace_126 rfl rfl rfl ?_
            refine am_bipush (pc' := 129) dX8_readsPlace_127 rfl rfl (by decide) ?_
            refine am_icmp_ne (pc' := 132) (tgt := 136) dX8_readsPlace_129 rfl rfl (fun c_129 => ?_) (fun c_129 => ?_)
            · refine am_iconst (pc' := 137) dX8_readsPlace_136 rfl rfl ?_
              refine am_iastore (pc' := 138) dX8_readsPlace_137 rfl (by first | assumption | exact ⟨by omega, by omega, rfl⟩) (by omega) (by omega) ?_
              refine am_aload_n (pc' := 139) dX8_readsPlace_138 rfl rfl rfl ?_
              refine am_getRk (ki := 10) (pc' := 142) (k := 10) (ci := 7) rfl dX8_readsPlace_139 rfl fl_X8_19 (by first | assumption | exact ⟨by omega, by omega, rfl⟩) rfl (by assumption) (by omega) ?_
              refine am_aload_n (pc' := 143) dX8_readsPlace_142 rfl rfl rfl ?_
              refine am_getIk (ki := 7) (pc' := 146) (k := 7) (ci := 7) rfl dX8_readsPlace_143 rfl fl_X8_87 (by first | assumption | exact ⟨by omega, by omega, rfl⟩) rfl ?_
              rw [am_u_n (by omega), am_u_n (by omega), e7]
              refine am_iload (pc' := 148) dX8_readsPlace_146 rfl rfl ?_
              refine am_iastore (pc' := 149) dX8_readsPlace_148 rfl (by first | assumption | exact ⟨by omega, by omega, rfl⟩) (by omega) (by omega) ?_
              refine am_aload_n (pc' := 150) dX8_readsPlace_149 rfl rfl rfl ?_
              first | refine am_dupR (pc' := 151) dX8_readsPlace_150 rfl ?_ | refine am_dupI (pc' := 151) dX8_readsPlace_150 rfl ?_
              refine am_getIk (ki := 7) (pc' := 154) (k := 7) (ci := 7) rfl dX8_readsPlace_151 rfl fl_X8_87 (by first | assumption | exact ⟨by omega, by omega, rfl⟩) rfl ?_
              rw [am_u_n (by omega), am_u_n (by omega), am_u_n (by omega), e7]
              refine am_iconst (pc' := 155) dX8_readsPlace_154 rfl rfl ?_
              refine am_iadd (pc' := 156) dX8_readsPlace_155 rfl ⟨by omega, by omega⟩ ?_
              refine am_putIk (ki := 7) (pc' := 159) (k := 7) (ci := 7) rfl dX8_readsPlace_156 rfl fl_X8_87 (by first | assumption | exact ⟨by omega, by omega, rfl⟩) rfl (fun _ _ _ e => by cases e; rfl) ?_
              refine am_iconst (pc' := 160) dX8_readsPlace_159 rfl rfl ?_
              refine am_retz dX8_readsPlace_160 rfl (by first | exact Or.inl rfl | exact Or.inr rfl | omega) ?_
              have y7 : ∀ t, 0 ≤ t → t < 2 + 3 * (q + 1) → tx_on t (c t) (c 1 - 48) = true := fun t t0 t1 => am_upto (i := 2 + 3 * q + 1 + 1) y4.2 (by rw [tx_on2 q5.1]; exact decide_eq_true (by omega)) t t0 (by omega)
              refine ⟨rfl, md_rf_s (md_rf_r (md_rf_r (md_rf_s md_rf_refl (by omega)) (by omega)) (by omega)) (by omega), Or.inl ⟨rfl, ⟨by omega, am_u_s _ _ _ _, ?_, ?_, ?_, y7, fun p p0 p1 => ?_⟩, by omega⟩⟩
              · rw [am_u_n (by omega), am_u_n (by omega), am_u_n (by omega), am_u_s]; omega
              · rw [am_u_n (by omega), am_u_n (by omega), am_u_n (by omega), am_u_n (by omega)]; exact e8
              · rw [am_u_n (by omega), am_u_n (by omega), am_u_n (by omega), am_u_n (by omega)]; exact r8
              · refine ⟨?_, ?_⟩
                · rw [am_u_n (by omega), am_u_n (by omega), am_u_if]
                  by_cases u : p = q
                  · subst u
                    rw [if_pos rfl]
                    unfold tx_kd
                    first | (exfalso; omega) | rw [if_pos (by omega)] | rw [if_neg (by omega), if_pos (by omega)] | rw [if_neg (by omega), if_neg (by omega), if_pos (by omega)] | fail
                  · rw [if_neg u, am_u_n (by omega)]; exact (hrow p p0 (by omega)).1
                · rw [am_u_n (by omega), am_u_if]
                  by_cases u : p = q
                  · subst u
                    rw [if_pos rfl, show 2 + 3 * p + 2 = 2 + 3 * p + 1 + 1 by omega]
                  · rw [if_neg u, am_u_n (by omega), am_u_n (by omega)]; exact (hrow p p0 (by omega)).2
            · refine am_iconst (pc' := 133) dX8_readsPlace_132 rfl rfl ?_
              refine am_goto (pc' := 137) dX8_readsPlace_133 rfl ?_
              refine am_iastore (pc' := 138) dX8_readsPlace_137 rfl (by first | assumption | exact ⟨by omega, by omega, rfl⟩) (by omega) (by omega) ?_
              refine am_aload_n (pc' := 139) dX8_readsPlace_138 rfl rfl rfl ?_
              refine am_getRk (ki := 10) (pc' := 142) (k := 10) (ci := 7) rfl dX8_readsPlace_139 rfl fl_X8_19 (by first | assumption | exact ⟨by omega, by omega, rfl⟩) rfl (by assumption) (by omega) ?_
              refine am_aload_n (pc' := 143) dX8_readsPlace_142 rfl rfl rfl ?_
              refine am_getIk (ki := 7) (pc' := 146) (k := 7) (ci := 7) rfl dX8_readsPlace_143 rfl fl_X8_87 (by first | assumption | exact ⟨by omega, by omega, rfl⟩) rfl ?_
              rw [am_u_n (by omega), am_u_n (by omega), e7]
              refine am_iload (pc' := 148) dX8_readsPlace_146 rfl rfl ?_
              refine am_iastore (pc' := 149) dX8_readsPlace_148 rfl (by first | assumption | exact ⟨by omega, by omega, rfl⟩) (by omega) (by omega) ?_
              refine am_aload_n (pc' := 150) dX8_readsPlace_149 rfl rfl rfl ?_
              first | refine am_dupR (pc' := 151) dX8_readsPlace_150 rfl ?_ | refine am_dupI (pc' := 151) dX8_readsPlace_150 rfl ?_
              refine am_getIk (ki := 7) (pc' := 154) (k := 7) (ci := 7) rfl dX8_readsPlace_151 rfl fl_X8_87 (by first | assumption | exact ⟨by omega, by omega, rfl⟩) rfl ?_
              rw [am_u_n (by omega), am_u_n (by omega), am_u_n (by omega), e7]
              refine am_iconst (pc' := 155) dX8_readsPlace_154 rfl rfl ?_
              refine am_iadd (pc' := 156) dX8_readsPlace_155 rfl ⟨by omega, by omega⟩ ?_
              refine am_putIk (ki := 7) (pc' := 159) (k := 7) (ci := 7) rfl dX8_readsPlace_156 rfl fl_X8_87 (by first | assumption | exact ⟨by omega, by omega, rfl⟩) rfl (fun _ _ _ e => by cases e; rfl) ?_
              refine am_iconst (pc' := 160) dX8_readsPlace_159 rfl rfl ?_
              refine am_retz dX8_readsPlace_160 rfl (by first | exact Or.inl rfl | exact Or.inr rfl | omega) ?_
              have y7 : ∀ t, 0 ≤ t → t < 2 + 3 * (q + 1) → tx_on t (c t) (c 1 - 48) = true := fun t t0 t1 => am_upto (i := 2 + 3 * q + 1 + 1) y4.2 (by rw [tx_on2 q5.1]; exact decide_eq_true (by omega)) t t0 (by omega)
              refine ⟨rfl, md_rf_s (md_rf_r (md_rf_r (md_rf_s md_rf_refl (by omega)) (by omega)) (by omega)) (by omega), Or.inl ⟨rfl, ⟨by omega, am_u_s _ _ _ _, ?_, ?_, ?_, y7, fun p p0 p1 => ?_⟩, by omega⟩⟩
              · rw [am_u_n (by omega), am_u_n (by omega), am_u_n (by omega), am_u_s]; omega
              · rw [am_u_n (by omega), am_u_n (by omega), am_u_n (by omega), am_u_n (by omega)]; exact e8
              · rw [am_u_n (by omega), am_u_n (by omega), am_u_n (by omega), am_u_n (by omega)]; exact r8
              · refine ⟨?_, ?_⟩
                · rw [am_u_n (by omega), am_u_n (by omega), am_u_if]
                  by_cases u : p = q
                  · subst u
                    rw [if_pos rfl]
                    unfold tx_kd
                    first | (exfalso; omega) | rw [if_pos (by omega)] | rw [if_neg (by omega), if_pos (by omega)] | rw [if_neg (by omega), if_neg (by omega), if_pos (by omega)] | fail
                  · rw [if_neg u, am_u_n (by omega)]; exact (hrow p p0 (by omega)).1
                · rw [am_u_n (by omega), am_u_if]
                  by_cases u : p = q
                  · subst u
                    rw [if_pos rfl, show 2 + 3 * p + 2 = 2 + 3 * p + 1 + 1 by omega]
                  · rw [if_neg u, am_u_n (by omega), am_u_n (by omega)]; exact (hrow p p0 (by omega)).2
          · refine am_iconst (pc' := 123) dX8_readsPlace_122 rfl rfl ?_
            refine am_goto (pc' := 137) dX8_readsPlace_123 rfl ?_
            refine am_iastore (pc' := 138) dX8_readsPlace_137 rfl (by first | assumption | exact ⟨by omega, by omega, rfl⟩) (by omega) (by omega) ?_
            refine am_aload_n (pc' := 139) dX8_readsPlace_138 rfl rfl rfl ?_
            refine am_getRk (ki := 10) (pc' := 142) (k := 10) (ci := 7) rfl dX8_readsPlace_139 rfl fl_X8_19 (by first | assumption | exact ⟨by omega, by omega, rfl⟩) rfl (by assumption) (by omega) ?_
            refine am_aload_n (pc' := 143) dX8_readsPlace_142 rfl rfl rfl ?_
            refine am_getIk (ki := 7) (pc' := 146) (k := 7) (ci := 7) rfl dX8_readsPlace_143 rfl fl_X8_87 (by first | assumption | exact ⟨by omega, by omega, rfl⟩) rfl ?_
            rw [am_u_n (by omega), am_u_n (by omega), e7]
            refine am_iload (pc' := 148) dX8_readsPlace_146 rfl rfl ?_
            refine am_iastore (pc' := 149) dX8_readsPlace_148 rfl (by first | assumption | exact ⟨by omega, by omega, rfl⟩) (by omega) (by omega) ?_
            refine am_aload_n (pc' := 150) dX8_readsPlace_149 rfl rfl rfl ?_
            first | refine am_dupR (pc' := 151) dX8_readsPlace_150 rfl ?_ | refine am_dupI (pc' := 151) dX8_readsPlace_150 rfl ?_
            refine am_getIk (ki := 7) (pc' := 154) (k := 7) (ci := 7) rfl dX8_readsPlace_151 rfl fl_X8_87 (by first | assumption | exact ⟨by omega, by omega, rfl⟩) rfl ?_
            rw [am_u_n (by omega), am_u_n (by omega), am_u_n (by omega), e7]
            refine am_iconst (pc' := 155) dX8_readsPlace_154 rfl rfl ?_
            refine am_iadd (pc' := 156) dX8_readsPlace_155 rfl ⟨by omega, by omega⟩ ?_
            refine am_putIk (ki := 7) (pc' := 159) (k := 7) (ci := 7) rfl dX8_readsPlace_156 rfl fl_X8_87 (by first | assumption | exact ⟨by omega, by omega, rfl⟩) rfl (fun _ _ _ e => by cases e; rfl) ?_
            refine am_iconst (pc' := 160) dX8_readsPlace_159 rfl rfl ?_
            refine am_retz dX8_readsPlace_160 rfl (by first | exact Or.inl rfl | exact Or.inr rfl | omega) ?_
            have y7 : ∀ t, 0 ≤ t → t < 2 + 3 * (q + 1) → tx_on t (c t) (c 1 - 48) = true := fun t t0 t1 => am_upto (i := 2 + 3 * q + 1 + 1) y4.2 (by rw [tx_on2 q5.1]; exact decide_eq_true (by omega)) t t0 (by omega)
            refine ⟨rfl, md_rf_s (md_rf_r (md_rf_r (md_rf_s md_rf_refl (by omega)) (by omega)) (by omega)) (by omega), Or.inl ⟨rfl, ⟨by omega, am_u_s _ _ _ _, ?_, ?_, ?_, y7, fun p p0 p1 => ?_⟩, by omega⟩⟩
            · rw [am_u_n (by omega), am_u_n (by omega), am_u_n (by omega), am_u_s]; omega
            · rw [am_u_n (by omega), am_u_n (by omega), am_u_n (by omega), am_u_n (by omega)]; exact e8
            · rw [am_u_n (by omega), am_u_n (by omega), am_u_n (by omega), am_u_n (by omega)]; exact r8
            · refine ⟨?_, ?_⟩
              · rw [am_u_n (by omega), am_u_n (by omega), am_u_if]
                by_cases u : p = q
                · subst u
                  rw [if_pos rfl]
                  unfold tx_kd
                  first | (exfalso; omega) | rw [if_pos (by omega)] | rw [if_neg (by omega), if_pos (by omega)] | rw [if_neg (by omega), if_neg (by omega), if_pos (by omega)] | fail
                · rw [if_neg u, am_u_n (by omega)]; exact (hrow p p0 (by omega)).1
              · rw [am_u_n (by omega), am_u_if]
                by_cases u : p = q
                · subst u
                  rw [if_pos rfl, show 2 + 3 * p + 2 = 2 + 3 * p + 1 + 1 by omega]
                · rw [if_neg u, am_u_n (by omega), am_u_n (by omega)]; exact (hrow p p0 (by omega)).2
        · simp only [am_z0, am_z1, ne_eq] at c_93
          refine am_iconst (pc' := 97) dX8_readsPlace_96 rfl rfl ?_
          refine am_retz dX8_readsPlace_97 rfl (by first | exact Or.inl rfl | exact Or.inr rfl | omega) ?_
          refine ⟨rfl, md_rf_s md_rf_refl (by omega), Or.inr ⟨rfl, ?_, by rw [am_u_s]; omega, by rw [am_u_s]; omega⟩⟩
          rw [am_u_s]
          refine tx_bad (by omega) y4.2 (fun y => ?_) (by omega)
          rw [tx_on2 q5.1]
          rw [md_cdp y] at hw c_93
          exact decide_eq_false (by omega)
      · refine am_iload_n (pc' := 45) dX8_readsPlace_44 rfl rfl rfl ?_
        refine am_bipush (pc' := 47) dX8_readsPlace_45 rfl rfl (by decide) ?_
        refine am_icmp_eq (pc' := 50) (tgt := 58) dX8_readsPlace_47 rfl rfl (fun c_47 => ?_) (fun c_47 => ?_)
        · have y4 := A1 y1 y2 (by omega)
          refine am_aload_n (pc' := 59) dX8_readsPlace_58 rfl rfl rfl ?_
          first | refine am_dupR (pc' := 60) dX8_readsPlace_59 rfl ?_ | refine am_dupI (pc' := 60) dX8_readsPlace_59 rfl ?_
          refine am_getIk (ki := 6) (pc' := 63) (k := 6) (ci := 7) rfl dX8_readsPlace_60 rfl fl_X8_84 (by first | assumption | exact ⟨by omega, by omega, rfl⟩) rfl ?_
          rw [am_u_s]
          refine am_iconst (pc' := 64) dX8_readsPlace_63 rfl rfl ?_
          refine am_iadd (pc' := 65) dX8_readsPlace_64 rfl ⟨by omega, by omega⟩ ?_
          refine am_putIk (ki := 6) (pc' := 68) (k := 6) (ci := 7) rfl dX8_readsPlace_65 rfl fl_X8_84 (by first | assumption | exact ⟨by omega, by omega, rfl⟩) rfl (fun _ _ _ e => by cases e; rfl) ?_
          rw [am_uu]
          refine am_aload_n (pc' := 69) dX8_readsPlace_68 rfl rfl rfl ?_
          refine am_iload_n (pc' := 70) dX8_readsPlace_69 rfl rfl rfl ?_
          refine am_iload_n (pc' := 71) dX8_readsPlace_70 rfl rfl rfl ?_
          refine am_callVp (pc' := 74) (as := [_, _]) (ci := 7)  rfl dX8_readsPlace_71 rfl ok_X8_codeAt ml_X8_90 im_X8_codeAt se_X8_codeAt rfl (Nat.le_of_ble_eq_true rfl) rfl (Nat.le_of_ble_eq_true rfl) (by first | assumption | exact ⟨by omega, by omega, rfl⟩) (t8_codeC (c := c) (a := 2 + 3 * q + 1 + 1) hM hb (am_u_s _ _ _ _) (by omega) (hcu _ _)) ?_
          refine am_bipush (pc' := 76) dX8_readsPlace_74 rfl rfl (by decide) ?_
          refine am_isubw (pc' := 77) dX8_readsPlace_76 rfl ?_
          refine am_istore (pc' := 79) (ls' := [_, _, _, _, _]) dX8_readsPlace_77 rfl (Nat.le_of_ble_eq_true rfl) rfl rfl ?_
          refine am_iload (pc' := 81) dX8_readsPlace_79 rfl rfl ?_
          refine am_i2l (pc' := 82) dX8_readsPlace_81 rfl ?_
          refine am_lconst0 (pc' := 83) dX8_readsPlace_82 rfl ?_
          refine am_aload_n (pc' := 84) dX8_readsPlace_83 rfl rfl rfl ?_
          refine am_getIk (ki := 8) (pc' := 87) (k := 8) (ci := 7) rfl dX8_readsPlace_84 rfl fl_X8_94 (by first | assumption | exact ⟨by omega, by omega, rfl⟩) rfl ?_
          rw [am_u_n (by omega)]
          refine am_i2l (pc' := 88) dX8_readsPlace_87 rfl ?_
          refine am_lconst1 (pc' := 89) dX8_readsPlace_88 rfl ?_
          refine am_lsub (pc' := 90) dX8_readsPlace_89 rfl ⟨by omega, by omega⟩ ?_
          refine am_callSp (pc' := 93) (as := [_, _, _])  rfl dX8_readsPlace_90 rfl ok_X8_in ml_X8_80 sm_X8_in (Nat.le_of_ble_eq_true rfl) rfl (Nat.le_of_ble_eq_true rfl) (t8_in) ?_
          refine am_if_ne (pc' := 96) (tgt := 98) dX8_readsPlace_93 rfl rfl (fun c_93 => ?_) (fun c_93 => ?_)
          · simp only [am_z0, am_z1, ne_eq] at c_93
            have y5 : 48 ≤ md_cd c n (2 + 3 * q + 1 + 1) ∧ am_w (md_cd c n (2 + 3 * q + 1 + 1) - 48) = md_cd c n (2 + 3 * q + 1 + 1) - 48 := by omega
            have y6 : 2 + 3 * q + 1 + 1 < n ∧ md_cd c n (2 + 3 * q + 1 + 1) = c (2 + 3 * q + 1 + 1) := by
              by_cases u : 2 + 3 * q + 1 + 1 < n
              · exact ⟨u, md_cdp u⟩
              · unfold md_cd at y5
                rw [if_neg u] at y5
                omega
            rw [y5.2, y6.2]
            rw [y5.2, y6.2] at c_93
            rw [y4.1.2]
            refine am_aload_n (pc' := 99) dX8_readsPlace_98 rfl rfl rfl ?_
            first | refine am_dupR (pc' := 100) dX8_readsPlace_99 rfl ?_ | refine am_dupI (pc' := 100) dX8_readsPlace_99 rfl ?_
            refine am_getIk (ki := 6) (pc' := 103) (k := 6) (ci := 7) rfl dX8_readsPlace_100 rfl fl_X8_84 (by first | assumption | exact ⟨by omega, by omega, rfl⟩) rfl ?_
            rw [am_u_s]
            refine am_iconst (pc' := 104) dX8_readsPlace_103 rfl rfl ?_
            refine am_iadd (pc' := 105) dX8_readsPlace_104 rfl ⟨by omega, by omega⟩ ?_
            refine am_putIk (ki := 6) (pc' := 108) (k := 6) (ci := 7) rfl dX8_readsPlace_105 rfl fl_X8_84 (by first | assumption | exact ⟨by omega, by omega, rfl⟩) rfl (fun _ _ _ e => by cases e; rfl) ?_
            rw [am_uu]
            refine am_aload_n (pc' := 109) dX8_readsPlace_108 rfl rfl rfl ?_
            refine am_getRk (ki := 9) (pc' := 112) (k := 9) (ci := 7) rfl dX8_readsPlace_109 rfl fl_X8_16 (by first | assumption | exact ⟨by omega, by omega, rfl⟩) rfl (by assumption) (by omega) ?_
            refine am_aload_n (pc' := 113) dX8_readsPlace_112 rfl rfl rfl ?_
            refine am_getIk (ki := 7) (pc' := 116) (k := 7) (ci := 7) rfl dX8_readsPlace_113 rfl fl_X8_87 (by first | assumption | exact ⟨by omega, by omega, rfl⟩) rfl ?_
            rw [am_u_n (by omega), e7]
            refine am_iload_n (pc' := 117) dX8_readsPlace_116 rfl rfl rfl ?_
            refine am_bipush (pc' := 119) dX8_readsPlace_117 rfl rfl (by decide) ?_
            refine am_icmp_ne (pc' := 122) (tgt := 126) dX8_readsPlace_119 rfl rfl (fun c_119 => ?_) (fun c_119 => ?_)
            · refine am_iload_n (pc' := 127) dX8_readsPlace_126 rfl rfl rfl ?_
              refine am_bipush (pc' := 129) dX8_readsPlace_127 rfl rfl (by decide) ?_
              refine am_icmp_ne (pc' := 132) (tgt := 136) dX8_readsPlace_129 rfl rfl (fun c_129 => ?_) (fun c_129 => ?_)
              · refine am_iconst (pc' := 137) dX8_readsPlace_136 rfl rfl ?_
                refine am_iastore (pc' := 138) dX8_readsPlace_137 rfl (by first | assumption | exact ⟨by omega, by omega, rfl⟩) (by omega) (by omega) ?_
                refine am_aload_n (pc' := 139) dX8_readsPlace_138 rfl rfl rfl ?_
                refine am_getRk (ki := 10) (pc' := 142) (k := 10) (ci := 7) rfl dX8_readsPlace_139 rfl fl_X8_19 (by first | assumption | exact ⟨by omega, by omega, rfl⟩) rfl (by assumption) (by omega) ?_
                refine am_aload_n (pc' := 143) dX8_readsPlace_142 rfl rfl rfl ?_
                refine am_getIk (ki := 7) (pc' := 146) (k := 7) (ci := 7) rfl dX8_readsPlace_143 rfl fl_X8_87 (by first | assumption | exact ⟨by omega, by omega, rfl⟩) rfl ?_
                rw [am_u_n (by omega), am_u_n (by omega), e7]
                refine am_iload (pc' := 148) dX8_readsPlace_146 rfl rfl ?_
                refine am_iastore (pc' := 149) dX8_readsPlace_148 rfl (by first | assumption | exact ⟨by omega, by omega, rfl⟩) (by omega) (by omega) ?_
                refine am_aload_n (pc' := 150) dX8_readsPlace_149 rfl rfl rfl ?_
                first | refine am_dupR (pc' := 151) dX8_readsPlace_150 rfl ?_ | refine am_dupI (pc' := 151) dX8_readsPlace_150 rfl ?_
                refine am_getIk (ki := 7) (pc' := 154) (k := 7) (ci := 7) rfl dX8_readsPlace_151 rfl fl_X8_87 (by first | assumption | exact ⟨by omega, by omega, rfl⟩) rfl ?_
                rw [am_u_n (by omega), am_u_n (by omega), am_u_n (by omega), e7]
                refine am_iconst (pc' := 155) dX8_readsPlace_154 rfl rfl ?_
                refine am_iadd (pc' := 156) dX8_readsPlace_155 rfl ⟨by omega, by omega⟩ ?_
                refine am_putIk (ki := 7) (pc' := 159) (k := 7) (ci := 7) rfl dX8_readsPlace_156 rfl fl_X8_87 (by first | assumption | exact ⟨by omega, by omega, rfl⟩) rfl (fun _ _ _ e => by cases e; rfl) ?_
                refine am_iconst (pc' := 160) dX8_readsPlace_159 rfl rfl ?_
                refine am_retz dX8_readsPlace_160 rfl (by first | exact Or.inl rfl | exact Or.inr rfl | omega) ?_
                have y7 : ∀ t, 0 ≤ t → t < 2 + 3 * (q + 1) → tx_on t (c t) (c 1 - 48) = true := fun t t0 t1 => am_upto (i := 2 + 3 * q + 1 + 1) y4.2 (by rw [tx_on2 q5.1]; exact decide_eq_true (by omega)) t t0 (by omega)
                refine ⟨rfl, md_rf_s (md_rf_r (md_rf_r (md_rf_s md_rf_refl (by omega)) (by omega)) (by omega)) (by omega), Or.inl ⟨rfl, ⟨by omega, am_u_s _ _ _ _, ?_, ?_, ?_, y7, fun p p0 p1 => ?_⟩, by omega⟩⟩
                · rw [am_u_n (by omega), am_u_n (by omega), am_u_n (by omega), am_u_s]; omega
                · rw [am_u_n (by omega), am_u_n (by omega), am_u_n (by omega), am_u_n (by omega)]; exact e8
                · rw [am_u_n (by omega), am_u_n (by omega), am_u_n (by omega), am_u_n (by omega)]; exact r8
                · refine ⟨?_, ?_⟩
                  · rw [am_u_n (by omega), am_u_n (by omega), am_u_if]
                    by_cases u : p = q
                    · subst u
                      rw [if_pos rfl]
                      unfold tx_kd
                      first | (exfalso; omega) | rw [if_pos (by omega)] | rw [if_neg (by omega), if_pos (by omega)] | rw [if_neg (by omega), if_neg (by omega), if_pos (by omega)] | fail
                    · rw [if_neg u, am_u_n (by omega)]; exact (hrow p p0 (by omega)).1
                  · rw [am_u_n (by omega), am_u_if]
                    by_cases u : p = q
                    · subst u
                      rw [if_pos rfl, show 2 + 3 * p + 2 = 2 + 3 * p + 1 + 1 by omega]
                    · rw [if_neg u, am_u_n (by omega), am_u_n (by omega)]; exact (hrow p p0 (by omega)).2
              · refine am_iconst (pc' := 133) dX8_readsPlace_132 rfl rfl ?_
                refine am_goto (pc' := 137) dX8_readsPlace_133 rfl ?_
                refine am_iastore (pc' := 138) dX8_readsPlace_137 rfl (by first | assumption | exact ⟨by omega, by omega, rfl⟩) (by omega) (by omega) ?_
                refine am_aload_n (pc' := 139) dX8_readsPlace_138 rfl rfl rfl ?_
                refine am_getRk (ki := 10) (pc' := 142) (k := 10) (ci := 7) rfl dX8_readsPlace_139 rfl fl_X8_19 (by first | assumption | exact ⟨by omega, by omega, rfl⟩) rfl (by assumption) (by omega) ?_
                refine am_aload_n (pc' := 143) dX8_readsPlace_142 rfl rfl rfl ?_
                refine am_getIk (ki := 7) (pc' := 146) (k := 7) (ci := 7) rfl dX8_readsPlace_143 rfl fl_X8_87 (by first | assumption | exact ⟨by omega, by omega, rfl⟩) rfl ?_
                rw [am_u_n (by omega), am_u_n (by omega), e7]
                refine am_iload (pc' := 148) dX8_readsPlace_146 rfl rfl ?_
                refine am_iastore (pc' := 149) dX8_readsPlace_148 rfl (by first | assumption | exact ⟨by omega, by omega, rfl⟩) (by omega) (by omega) ?_
                refine am_aload_n (pc' := 150) dX8_readsPlace_149 rfl rfl rfl ?_
                first | refine am_dupR (pc' := 151) dX8_readsPlace_150 rfl ?_ | refine am_dupI (pc' := 151) dX8_readsPlace_150 rfl ?_
                refine am_getIk (ki := 7) (pc' := 154) (k := 7) (ci := 7) rfl dX8_readsPlace_151 rfl fl_X8_87 (by first | assumption | exact ⟨by omega, by omega, rfl⟩) rfl ?_
                rw [am_u_n (by omega), am_u_n (by omega), am_u_n (by omega), e7]
                refine am_iconst (pc' := 155) dX8_readsPlace_154 rfl rfl ?_
                refine am_iadd (pc' := 156) dX8_readsPlace_155 rfl ⟨by omega, by omega⟩ ?_
                refine am_putIk (ki := 7) (pc' := 159) (k := 7) (ci := 7) rfl dX8_readsPlace_156 rfl fl_X8_87 (by first | assumption | exact ⟨by omega, by omega, rfl⟩) rfl (fun _ _ _ e => by cases e; rfl) ?_
                refine am_iconst (pc' := 160) dX8_readsPlace_159 rfl rfl ?_
                refine am_retz dX8_readsPlace_160 rfl (by first | exact Or.inl rfl | exact Or.inr rfl | omega) ?_
                have y7 : ∀ t, 0 ≤ t → t < 2 + 3 * (q + 1) → tx_on t (c t) (c 1 - 48) = true := fun t t0 t1 => am_upto (i := 2 + 3 * q + 1 + 1) y4.2 (by rw [tx_on2 q5.1]; exact decide_eq_true (by omega)) t t0 (by omega)
                refine ⟨rfl, md_rf_s (md_rf_r (md_rf_r (md_rf_s md_rf_refl (by omega)) (by omega)) (by omega)) (by omega), Or.inl ⟨rfl, ⟨by omega, am_u_s _ _ _ _, ?_, ?_, ?_, y7, fun p p0 p1 => ?_⟩, by omega⟩⟩
                · rw [am_u_n (by omega), am_u_n (by omega), am_u_n (by omega), am_u_s]; omega
                · rw [am_u_n (by omega), am_u_n (by omega), am_u_n (by omega), am_u_n (by omega)]; exact e8
                · rw [am_u_n (by omega), am_u_n (by omega), am_u_n (by omega), am_u_n (by omega)]; exact r8
                · refine ⟨?_, ?_⟩
                  · rw [am_u_n (by omega), am_u_n (by omega), am_u_if]
                    by_cases u : p = q
                    · subst u
                      rw [if_pos rfl]
                      unfold tx_kd
                      first | (exfalso; omega) | rw [if_pos (by omega)] | rw [if_neg (by omega), if_pos (by omega)] | rw [if_neg (by omega), if_neg (by omega), if_pos (by omega)] | fail
                    · rw [if_neg u, am_u_n (by omega)]; exact (hrow p p0 (by omega)).1
                  · rw [am_u_n (by omega), am_u_if]
                    by_cases u : p = q
                    · subst u
                      rw [if_pos rfl, show 2 + 3 * p + 2 = 2 + 3 * p + 1 + 1 by omega]
                    · rw [if_neg u, am_u_n (by omega), am_u_n (by omega)]; exact (hrow p p0 (by omega)).2
            · refine am_iconst (pc' := 123) dX8_readsPlace_122 rfl rfl ?_
              refine am_goto (pc' := 137) dX8_readsPlace_123 rfl ?_
              refine am_iastore (pc' := 138) dX8_readsPlace_137 rfl (by first | assumption | exact ⟨by omega, by omega, rfl⟩) (by omega) (by omega) ?_
              refine am_aload_n (pc' := 139) dX8_readsPlace_138 rfl rfl rfl ?_
              refine am_getRk (ki := 10) (pc' := 142) (k := 10) (ci := 7) rfl dX8_readsPlace_139 rfl fl_X8_19 (by first | assumption | exact ⟨by omega, by omega, rfl⟩) rfl (by assumption) (by omega) ?_
              refine am_aload_n (pc' := 143) dX8_readsPlace_142 rfl rfl rfl ?_
              refine am_getIk (ki := 7) (pc' := 146) (k := 7) (ci := 7) rfl dX8_readsPlace_143 rfl fl_X8_87 (by first | assumption | exact ⟨by omega, by omega, rfl⟩) rfl ?_
              rw [am_u_n (by omega), am_u_n (by omega), e7]
              refine am_iload (pc' := 148) dX8_readsPlace_146 rfl rfl ?_
              refine am_iastore (pc' := 149) dX8_readsPlace_148 rfl (by first | assumption | exact ⟨by omega, by omega, rfl⟩) (by omega) (by omega) ?_
              refine am_aload_n (pc' := 150) dX8_readsPlace_149 rfl rfl rfl ?_
              first | refine am_dupR (pc' := 151) dX8_readsPlace_150 rfl ?_ | refine am_dupI (pc' := 151) dX8_readsPlace_150 rfl ?_
              refine am_getIk (ki := 7) (pc' := 154) (k := 7) (ci := 7) rfl dX8_readsPlace_151 rfl fl_X8_87 (by first | assumption | exact ⟨by omega, by omega, rfl⟩) rfl ?_
              rw [am_u_n (by omega), am_u_n (by omega), am_u_n (by omega), e7]
              refine am_iconst (pc' := 155) dX8_readsPlace_154 rfl rfl ?_
              refine am_iadd (pc' := 156) dX8_readsPlace_155 rfl ⟨by omega, by omega⟩ ?_
              refine am_putIk (ki := 7) (pc' := 159) (k := 7) (ci := 7) rfl dX8_readsPlace_156 rfl fl_X8_87 (by first | assumption | exact ⟨by omega, by omega, rfl⟩) rfl (fun _ _ _ e => by cases e; rfl) ?_
              refine am_iconst (pc' := 160) dX8_readsPlace_159 rfl rfl ?_
              refine am_retz dX8_readsPlace_160 rfl (by first | exact Or.inl rfl | exact Or.inr rfl | omega) ?_
              have y7 : ∀ t, 0 ≤ t → t < 2 + 3 * (q + 1) → tx_on t (c t) (c 1 - 48) = true := fun t t0 t1 => am_upto (i := 2 + 3 * q + 1 + 1) y4.2 (by rw [tx_on2 q5.1]; exact decide_eq_true (by omega)) t t0 (by omega)
              refine ⟨rfl, md_rf_s (md_rf_r (md_rf_r (md_rf_s md_rf_refl (by omega)) (by omega)) (by omega)) (by omega), Or.inl ⟨rfl, ⟨by omega, am_u_s _ _ _ _, ?_, ?_, ?_, y7, fun p p0 p1 => ?_⟩, by omega⟩⟩
              · rw [am_u_n (by omega), am_u_n (by omega), am_u_n (by omega), am_u_s]; omega
              · rw [am_u_n (by omega), am_u_n (by omega), am_u_n (by omega), am_u_n (by omega)]; exact e8
              · rw [am_u_n (by omega), am_u_n (by omega), am_u_n (by omega), am_u_n (by omega)]; exact r8
              · refine ⟨?_, ?_⟩
                · rw [am_u_n (by omega), am_u_n (by omega), am_u_if]
                  by_cases u : p = q
                  · subst u
                    rw [if_pos rfl]
                    unfold tx_kd
                    first | (exfalso; omega) | rw [if_pos (by omega)] | rw [if_neg (by omega), if_pos (by omega)] | rw [if_neg (by omega), if_neg (by omega), if_pos (by omega)] | fail
                  · rw [if_neg u, am_u_n (by omega)]; exact (hrow p p0 (by omega)).1
                · rw [am_u_n (by omega), am_u_if]
                  by_cases u : p = q
                  · subst u
                    rw [if_pos rfl, show 2 + 3 * p + 2 = 2 + 3 * p + 1 + 1 by omega]
                  · rw [if_neg u, am_u_n (by omega), am_u_n (by omega)]; exact (hrow p p0 (by omega)).2
          · simp only [am_z0, am_z1, ne_eq] at c_93
            refine am_iconst (pc' := 97) dX8_readsPlace_96 rfl rfl ?_
            refine am_retz dX8_readsPlace_97 rfl (by first | exact Or.inl rfl | exact Or.inr rfl | omega) ?_
            refine ⟨rfl, md_rf_s md_rf_refl (by omega), Or.inr ⟨rfl, ?_, by rw [am_u_s]; omega, by rw [am_u_s]; omega⟩⟩
            rw [am_u_s]
            refine tx_bad (by omega) y4.2 (fun y => ?_) (by omega)
            rw [tx_on2 q5.1]
            rw [md_cdp y] at hw c_93
            exact decide_eq_false (by omega)
        · refine am_iload_n (pc' := 51) dX8_readsPlace_50 rfl rfl rfl ?_
          refine am_bipush (pc' := 53) dX8_readsPlace_51 rfl rfl (by decide) ?_
          refine am_icmp_eq (pc' := 56) (tgt := 58) dX8_readsPlace_53 rfl rfl (fun c_53 => ?_) (fun c_53 => ?_)
          · have y4 := A1 y1 y2 (by omega)
            refine am_aload_n (pc' := 59) dX8_readsPlace_58 rfl rfl rfl ?_
            first | refine am_dupR (pc' := 60) dX8_readsPlace_59 rfl ?_ | refine am_dupI (pc' := 60) dX8_readsPlace_59 rfl ?_
            refine am_getIk (ki := 6) (pc' := 63) (k := 6) (ci := 7) rfl dX8_readsPlace_60 rfl fl_X8_84 (by first | assumption | exact ⟨by omega, by omega, rfl⟩) rfl ?_
            rw [am_u_s]
            refine am_iconst (pc' := 64) dX8_readsPlace_63 rfl rfl ?_
            refine am_iadd (pc' := 65) dX8_readsPlace_64 rfl ⟨by omega, by omega⟩ ?_
            refine am_putIk (ki := 6) (pc' := 68) (k := 6) (ci := 7) rfl dX8_readsPlace_65 rfl fl_X8_84 (by first | assumption | exact ⟨by omega, by omega, rfl⟩) rfl (fun _ _ _ e => by cases e; rfl) ?_
            rw [am_uu]
            refine am_aload_n (pc' := 69) dX8_readsPlace_68 rfl rfl rfl ?_
            refine am_iload_n (pc' := 70) dX8_readsPlace_69 rfl rfl rfl ?_
            refine am_iload_n (pc' := 71) dX8_readsPlace_70 rfl rfl rfl ?_
            refine am_callVp (pc' := 74) (as := [_, _]) (ci := 7)  rfl dX8_readsPlace_71 rfl ok_X8_codeAt ml_X8_90 im_X8_codeAt se_X8_codeAt rfl (Nat.le_of_ble_eq_true rfl) rfl (Nat.le_of_ble_eq_true rfl) (by first | assumption | exact ⟨by omega, by omega, rfl⟩) (t8_codeC (c := c) (a := 2 + 3 * q + 1 + 1) hM hb (am_u_s _ _ _ _) (by omega) (hcu _ _)) ?_
            refine am_bipush (pc' := 76) dX8_readsPlace_74 rfl rfl (by decide) ?_
            refine am_isubw (pc' := 77) dX8_readsPlace_76 rfl ?_
            refine am_istore (pc' := 79) (ls' := [_, _, _, _, _]) dX8_readsPlace_77 rfl (Nat.le_of_ble_eq_true rfl) rfl rfl ?_
            refine am_iload (pc' := 81) dX8_readsPlace_79 rfl rfl ?_
            refine am_i2l (pc' := 82) dX8_readsPlace_81 rfl ?_
            refine am_lconst0 (pc' := 83) dX8_readsPlace_82 rfl ?_
            refine am_aload_n (pc' := 84) dX8_readsPlace_83 rfl rfl rfl ?_
            refine am_getIk (ki := 8) (pc' := 87) (k := 8) (ci := 7) rfl dX8_readsPlace_84 rfl fl_X8_94 (by first | assumption | exact ⟨by omega, by omega, rfl⟩) rfl ?_
            rw [am_u_n (by omega)]
            refine am_i2l (pc' := 88) dX8_readsPlace_87 rfl ?_
            refine am_lconst1 (pc' := 89) dX8_readsPlace_88 rfl ?_
            refine am_lsub (pc' := 90) dX8_readsPlace_89 rfl ⟨by omega, by omega⟩ ?_
            refine am_callSp (pc' := 93) (as := [_, _, _])  rfl dX8_readsPlace_90 rfl ok_X8_in ml_X8_80 sm_X8_in (Nat.le_of_ble_eq_true rfl) rfl (Nat.le_of_ble_eq_true rfl) (t8_in) ?_
            refine am_if_ne (pc' := 96) (tgt := 98) dX8_readsPlace_93 rfl rfl (fun c_93 => ?_) (fun c_93 => ?_)
            · simp only [am_z0, am_z1, ne_eq] at c_93
              have y5 : 48 ≤ md_cd c n (2 + 3 * q + 1 + 1) ∧ am_w (md_cd c n (2 + 3 * q + 1 + 1) - 48) = md_cd c n (2 + 3 * q + 1 + 1) - 48 := by omega
              have y6 : 2 + 3 * q + 1 + 1 < n ∧ md_cd c n (2 + 3 * q + 1 + 1) = c (2 + 3 * q + 1 + 1) := by
                by_cases u : 2 + 3 * q + 1 + 1 < n
                · exact ⟨u, md_cdp u⟩
                · unfold md_cd at y5
                  rw [if_neg u] at y5
                  omega
              rw [y5.2, y6.2]
              rw [y5.2, y6.2] at c_93
              rw [y4.1.2]
              refine am_aload_n (pc' := 99) dX8_readsPlace_98 rfl rfl rfl ?_
              first | refine am_dupR (pc' := 100) dX8_readsPlace_99 rfl ?_ | refine am_dupI (pc' := 100) dX8_readsPlace_99 rfl ?_
              refine am_getIk (ki := 6) (pc' := 103) (k := 6) (ci := 7) rfl dX8_readsPlace_100 rfl fl_X8_84 (by first | assumption | exact ⟨by omega, by omega, rfl⟩) rfl ?_
              rw [am_u_s]
              refine am_iconst (pc' := 104) dX8_readsPlace_103 rfl rfl ?_
              refine am_iadd (pc' := 105) dX8_readsPlace_104 rfl ⟨by omega, by omega⟩ ?_
              refine am_putIk (ki := 6) (pc' := 108) (k := 6) (ci := 7) rfl dX8_readsPlace_105 rfl fl_X8_84 (by first | assumption | exact ⟨by omega, by omega, rfl⟩) rfl (fun _ _ _ e => by cases e; rfl) ?_
              rw [am_uu]
              refine am_aload_n (pc' := 109) dX8_readsPlace_108 rfl rfl rfl ?_
              refine am_getRk (ki := 9) (pc' := 112) (k := 9) (ci := 7) rfl dX8_readsPlace_109 rfl fl_X8_16 (by first | assumption | exact ⟨by omega, by omega, rfl⟩) rfl (by assumption) (by omega) ?_
              refine am_aload_n (pc' := 113) dX8_readsPlace_112 rfl rfl rfl ?_
              refine am_getIk (ki := 7) (pc' := 116) (k := 7) (ci := 7) rfl dX8_readsPlace_113 rfl fl_X8_87 (by first | assumption | exact ⟨by omega, by omega, rfl⟩) rfl ?_
              rw [am_u_n (by omega), e7]
              refine am_iload_n (pc' := 117) dX8_readsPlace_116 rfl rfl rfl ?_
              refine am_bipush (pc' := 119) dX8_readsPlace_117 rfl rfl (by decide) ?_
              refine am_icmp_ne (pc' := 122) (tgt := 126) dX8_readsPlace_119 rfl rfl (fun c_119 => ?_) (fun c_119 => ?_)
              · refine am_iload_n (pc' := 127) dX8_readsPlace_126 rfl rfl rfl ?_
                refine am_bipush (pc' := 129) dX8_readsPlace_127 rfl rfl (by decide) ?_
                refine am_icmp_ne (pc' := 132) (tgt := 136) dX8_readsPlace_129 rfl rfl (fun c_129 => ?_) (fun c_129 => ?_)
                · refine am_iconst (pc' := 137) dX8_readsPlace_136 rfl rfl ?_
                  refine am_iastore (pc' := 138) dX8_readsPlace_137 rfl (by first | assumption | exact ⟨by omega, by omega, rfl⟩) (by omega) (by omega) ?_
                  refine am_aload_n (pc' := 139) dX8_readsPlace_138 rfl rfl rfl ?_
                  refine am_getRk (ki := 10) (pc' := 142) (k := 10) (ci := 7) rfl dX8_readsPlace_139 rfl fl_X8_19 (by first | assumption | exact ⟨by omega, by omega, rfl⟩) rfl (by assumption) (by omega) ?_
                  refine am_aload_n (pc' := 143) dX8_readsPlace_142 rfl rfl rfl ?_
                  refine am_getIk (ki := 7) (pc' := 146) (k := 7) (ci := 7) rfl dX8_readsPlace_143 rfl fl_X8_87 (by first | assumption | exact ⟨by omega, by omega, rfl⟩) rfl ?_
                  rw [am_u_n (by omega), am_u_n (by omega), e7]
                  refine am_iload (pc' := 148) dX8_readsPlace_146 rfl rfl ?_
                  refine am_iastore (pc' := 149) dX8_readsPlace_148 rfl (by first | assumption | exact ⟨by omega, by omega, rfl⟩) (by omega) (by omega) ?_
                  refine am_aload_n (pc' := 150) dX8_readsPlace_149 rfl rfl rfl ?_
                  first | refine am_dupR (pc' := 151) dX8_readsPlace_150 rfl ?_ | refine am_dupI (pc' := 151) dX8_readsPlace_150 rfl ?_
                  refine am_getIk (ki := 7) (pc' := 154) (k := 7) (ci := 7) rfl dX8_readsPlace_151 rfl fl_X8_87 (by first | assumption | exact ⟨by omega, by omega, rfl⟩) rfl ?_
                  rw [am_u_n (by omega), am_u_n (by omega), am_u_n (by omega), e7]
                  refine am_iconst (pc' := 155) dX8_readsPlace_154 rfl rfl ?_
                  refine am_iadd (pc' := 156) dX8_readsPlace_155 rfl ⟨by omega, by omega⟩ ?_
                  refine am_putIk (ki := 7) (pc' := 159) (k := 7) (ci := 7) rfl dX8_readsPlace_156 rfl fl_X8_87 (by first | assumption | exact ⟨by omega, by omega, rfl⟩) rfl (fun _ _ _ e => by cases e; rfl) ?_
                  refine am_iconst (pc' := 160) dX8_readsPlace_159 rfl rfl ?_
                  refine am_retz dX8_readsPlace_160 rfl (by first | exact Or.inl rfl | exact Or.inr rfl | omega) ?_
                  have y7 : ∀ t, 0 ≤ t → t < 2 + 3 * (q + 1) → tx_on t (c t) (c 1 - 48) = true := fun t t0 t1 => am_upto (i := 2 + 3 * q + 1 + 1) y4.2 (by rw [tx_on2 q5.1]; exact decide_eq_true (by omega)) t t0 (by omega)
                  refine ⟨rfl, md_rf_s (md_rf_r (md_rf_r (md_rf_s md_rf_refl (by omega)) (by omega)) (by omega)) (by omega), Or.inl ⟨rfl, ⟨by omega, am_u_s _ _ _ _, ?_, ?_, ?_, y7, fun p p0 p1 => ?_⟩, by omega⟩⟩
                  · rw [am_u_n (by omega), am_u_n (by omega), am_u_n (by omega), am_u_s]; omega
                  · rw [am_u_n (by omega), am_u_n (by omega), am_u_n (by omega), am_u_n (by omega)]; exact e8
                  · rw [am_u_n (by omega), am_u_n (by omega), am_u_n (by omega), am_u_n (by omega)]; exact r8
                  · refine ⟨?_, ?_⟩
                    · rw [am_u_n (by omega), am_u_n (by omega), am_u_if]
                      by_cases u : p = q
                      · subst u
                        rw [if_pos rfl]
                        unfold tx_kd
                        first | (exfalso; omega) | rw [if_pos (by omega)] | rw [if_neg (by omega), if_pos (by omega)] | rw [if_neg (by omega), if_neg (by omega), if_pos (by omega)] | fail
                      · rw [if_neg u, am_u_n (by omega)]; exact (hrow p p0 (by omega)).1
                    · rw [am_u_n (by omega), am_u_if]
                      by_cases u : p = q
                      · subst u
                        rw [if_pos rfl, show 2 + 3 * p + 2 = 2 + 3 * p + 1 + 1 by omega]
                      · rw [if_neg u, am_u_n (by omega), am_u_n (by omega)]; exact (hrow p p0 (by omega)).2
                · refine am_iconst (pc' := 133) dX8_readsPlace_132 rfl rfl ?_
                  refine am_goto (pc' := 137) dX8_readsPlace_133 rfl ?_
                  refine am_iastore (pc' := 138) dX8_readsPlace_137 rfl (by first | assumption | exact ⟨by omega, by omega, rfl⟩) (by omega) (by omega) ?_
                  refine am_aload_n (pc' := 139) dX8_readsPlace_138 rfl rfl rfl ?_
                  refine am_getRk (ki := 10) (pc' := 142) (k := 10) (ci := 7) rfl dX8_readsPlace_139 rfl fl_X8_19 (by first | assumption | exact ⟨by omega, by omega, rfl⟩) rfl (by assumption) (by omega) ?_
                  refine am_aload_n (pc' := 143) dX8_readsPlace_142 rfl rfl rfl ?_
                  refine am_getIk (ki := 7) (pc' := 146) (k := 7) (ci := 7) rfl dX8_readsPlace_143 rfl fl_X8_87 (by first | assumption | exact ⟨by omega, by omega, rfl⟩) rfl ?_
                  rw [am_u_n (by omega), am_u_n (by omega), e7]
                  refine am_iload (pc' := 148) dX8_readsPlace_146 rfl rfl ?_
                  refine am_iastore (pc' := 149) dX8_readsPlace_148 rfl (by first | assumption | exact ⟨by omega, by omega, rfl⟩) (by omega) (by omega) ?_
                  refine am_aload_n (pc' := 150) dX8_readsPlace_149 rfl rfl rfl ?_
                  first | refine am_dupR (pc' := 151) dX8_readsPlace_150 rfl ?_ | refine am_dupI (pc' := 151) dX8_readsPlace_150 rfl ?_
                  refine am_getIk (ki := 7) (pc' := 154) (k := 7) (ci := 7) rfl dX8_readsPlace_151 rfl fl_X8_87 (by first | assumption | exact ⟨by omega, by omega, rfl⟩) rfl ?_
                  rw [am_u_n (by omega), am_u_n (by omega), am_u_n (by omega), e7]
                  refine am_iconst (pc' := 155) dX8_readsPlace_154 rfl rfl ?_
                  refine am_iadd (pc' := 156) dX8_readsPlace_155 rfl ⟨by omega, by omega⟩ ?_
                  refine am_putIk (ki := 7) (pc' := 159) (k := 7) (ci := 7) rfl dX8_readsPlace_156 rfl fl_X8_87 (by first | assumption | exact ⟨by omega, by omega, rfl⟩) rfl (fun _ _ _ e => by cases e; rfl) ?_
                  refine am_iconst (pc' := 160) dX8_readsPlace_159 rfl rfl ?_
                  refine am_retz dX8_readsPlace_160 rfl (by first | exact Or.inl rfl | exact Or.inr rfl | omega) ?_
                  have y7 : ∀ t, 0 ≤ t → t < 2 + 3 * (q + 1) → tx_on t (c t) (c 1 - 48) = true := fun t t0 t1 => am_upto (i := 2 + 3 * q + 1 + 1) y4.2 (by rw [tx_on2 q5.1]; exact decide_eq_true (by omega)) t t0 (by omega)
                  refine ⟨rfl, md_rf_s (md_rf_r (md_rf_r (md_rf_s md_rf_refl (by omega)) (by omega)) (by omega)) (by omega), Or.inl ⟨rfl, ⟨by omega, am_u_s _ _ _ _, ?_, ?_, ?_, y7, fun p p0 p1 => ?_⟩, by omega⟩⟩
                  · rw [am_u_n (by omega), am_u_n (by omega), am_u_n (by omega), am_u_s]; omega
                  · rw [am_u_n (by omega), am_u_n (by omega), am_u_n (by omega), am_u_n (by omega)]; exact e8
                  · rw [am_u_n (by omega), am_u_n (by omega), am_u_n (by omega), am_u_n (by omega)]; exact r8
                  · refine ⟨?_, ?_⟩
                    · rw [am_u_n (by omega), am_u_n (by omega), am_u_if]
                      by_cases u : p = q
                      · subst u
                        rw [if_pos rfl]
                        unfold tx_kd
                        first | (exfalso; omega) | rw [if_pos (by omega)] | rw [if_neg (by omega), if_pos (by omega)] | rw [if_neg (by omega), if_neg (by omega), if_pos (by omega)] | fail
                      · rw [if_neg u, am_u_n (by omega)]; exact (hrow p p0 (by omega)).1
                    · rw [am_u_n (by omega), am_u_if]
                      by_cases u : p = q
                      · subst u
                        rw [if_pos rfl, show 2 + 3 * p + 2 = 2 + 3 * p + 1 + 1 by omega]
                      · rw [if_neg u, am_u_n (by omega), am_u_n (by omega)]; exact (hrow p p0 (by omega)).2
              · refine am_iconst (pc' := 123) dX8_readsPlace_122 rfl rfl ?_
                refine am_goto (pc' := 137) dX8_readsPlace_123 rfl ?_
                refine am_iastore (pc' := 138) dX8_readsPlace_137 rfl (by first | assumption | exact ⟨by omega, by omega, rfl⟩) (by omega) (by omega) ?_
                refine am_aload_n (pc' := 139) dX8_readsPlace_138 rfl rfl rfl ?_
                refine am_getRk (ki := 10) (pc' := 142) (k := 10) (ci := 7) rfl dX8_readsPlace_139 rfl fl_X8_19 (by first | assumption | exact ⟨by omega, by omega, rfl⟩) rfl (by assumption) (by omega) ?_
                refine am_aload_n (pc' := 143) dX8_readsPlace_142 rfl rfl rfl ?_
                refine am_getIk (ki := 7) (pc' := 146) (k := 7) (ci := 7) rfl dX8_readsPlace_143 rfl fl_X8_87 (by first | assumption | exact ⟨by omega, by omega, rfl⟩) rfl ?_
                rw [am_u_n (by omega), am_u_n (by omega), e7]
                refine am_iload (pc' := 148) dX8_readsPlace_146 rfl rfl ?_
                refine am_iastore (pc' := 149) dX8_readsPlace_148 rfl (by first | assumption | exact ⟨by omega, by omega, rfl⟩) (by omega) (by omega) ?_
                refine am_aload_n (pc' := 150) dX8_readsPlace_149 rfl rfl rfl ?_
                first | refine am_dupR (pc' := 151) dX8_readsPlace_150 rfl ?_ | refine am_dupI (pc' := 151) dX8_readsPlace_150 rfl ?_
                refine am_getIk (ki := 7) (pc' := 154) (k := 7) (ci := 7) rfl dX8_readsPlace_151 rfl fl_X8_87 (by first | assumption | exact ⟨by omega, by omega, rfl⟩) rfl ?_
                rw [am_u_n (by omega), am_u_n (by omega), am_u_n (by omega), e7]
                refine am_iconst (pc' := 155) dX8_readsPlace_154 rfl rfl ?_
                refine am_iadd (pc' := 156) dX8_readsPlace_155 rfl ⟨by omega, by omega⟩ ?_
                refine am_putIk (ki := 7) (pc' := 159) (k := 7) (ci := 7) rfl dX8_readsPlace_156 rfl fl_X8_87 (by first | assumption | exact ⟨by omega, by omega, rfl⟩) rfl (fun _ _ _ e => by cases e; rfl) ?_
                refine am_iconst (pc' := 160) dX8_readsPlace_159 rfl rfl ?_
                refine am_retz dX8_readsPlace_160 rfl (by first | exact Or.inl rfl | exact Or.inr rfl | omega) ?_
                have y7 : ∀ t, 0 ≤ t → t < 2 + 3 * (q + 1) → tx_on t (c t) (c 1 - 48) = true := fun t t0 t1 => am_upto (i := 2 + 3 * q + 1 + 1) y4.2 (by rw [tx_on2 q5.1]; exact decide_eq_true (by omega)) t t0 (by omega)
                refine ⟨rfl, md_rf_s (md_rf_r (md_rf_r (md_rf_s md_rf_refl (by omega)) (by omega)) (by omega)) (by omega), Or.inl ⟨rfl, ⟨by omega, am_u_s _ _ _ _, ?_, ?_, ?_, y7, fun p p0 p1 => ?_⟩, by omega⟩⟩
                · rw [am_u_n (by omega), am_u_n (by omega), am_u_n (by omega), am_u_s]; omega
                · rw [am_u_n (by omega), am_u_n (by omega), am_u_n (by omega), am_u_n (by omega)]; exact e8
                · rw [am_u_n (by omega), am_u_n (by omega), am_u_n (by omega), am_u_n (by omega)]; exact r8
                · refine ⟨?_, ?_⟩
                  · rw [am_u_n (by omega), am_u_n (by omega), am_u_if]
                    by_cases u : p = q
                    · subst u
                      rw [if_pos rfl]
                      unfold tx_kd
                      first | (exfalso; omega) | rw [if_pos (by omega)] | rw [if_neg (by omega), if_pos (by omega)] | rw [if_neg (by omega), if_neg (by omega), if_pos (by omega)] | fail
                    · rw [if_neg u, am_u_n (by omega)]; exact (hrow p p0 (by omega)).1
                  · rw [am_u_n (by omega), am_u_if]
                    by_cases u : p = q
                    · subst u
                      rw [if_pos rfl, show 2 + 3 * p + 2 = 2 + 3 * p + 1 + 1 by omega]
                    · rw [if_neg u, am_u_n (by omega), am_u_n (by omega)]; exact (hrow p p0 (by omega)).2
            · simp only [am_z0, am_z1, ne_eq] at c_93
              refine am_iconst (pc' := 97) dX8_readsPlace_96 rfl rfl ?_
              refine am_retz dX8_readsPlace_97 rfl (by first | exact Or.inl rfl | exact Or.inr rfl | omega) ?_
              refine ⟨rfl, md_rf_s md_rf_refl (by omega), Or.inr ⟨rfl, ?_, by rw [am_u_s]; omega, by rw [am_u_s]; omega⟩⟩
              rw [am_u_s]
              refine tx_bad (by omega) y4.2 (fun y => ?_) (by omega)
              rw [tx_on2 q5.1]
              rw [md_cdp y] at hw c_93
              exact decide_eq_false (by omega)
          · refine am_iconst (pc' := 57) dX8_readsPlace_56 rfl rfl ?_
            refine am_retz dX8_readsPlace_57 rfl (by first | exact Or.inl rfl | exact Or.inr rfl | omega) ?_
            exact ⟨rfl, md_rf_s md_rf_refl (by omega), Or.inr ⟨rfl, by rw [am_u_s]; exact F1 y1 y2 (by omega), by rw [am_u_s]; omega, by rw [am_u_s]; omega⟩⟩
    · refine am_iconst (pc' := 20) dX8_readsPlace_19 rfl rfl ?_
      refine am_retz dX8_readsPlace_20 rfl (by first | exact Or.inl rfl | exact Or.inr rfl | omega) ?_
      exact ⟨rfl, md_rf_refl, Or.inr ⟨rfl, by rw [e6]; exact F0 (by omega), by omega, by omega⟩⟩
