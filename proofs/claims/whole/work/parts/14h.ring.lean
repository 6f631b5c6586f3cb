/-! DifferRings: ring -/
theorem sh_at_u {h : am_H} {x i f : Int} (hx : 1 < x) : sh_at (am_u h 1 9 f) x i = sh_at h x i := by
  unfold sh_at
  rw [am_u_n (by omega), am_u_n (by omega)]
theorem am_SO_u {h : am_H} {x f : Int} (hx : 1 < x) (hO : am_SO h x) : am_SO (am_u h 1 9 f) x := by
  unfold am_SO
  rw [am_u_n (by omega)]
  exact hO
def o_P (n : Int) : Int := (n - 2) / 3
/-- a text that is a ring -/
theorem tx_ring {c : Int → Int} {n : Int} (h : tx_ff c n (-9)) : (2 ≤ o_P n ∧ o_P n ≤ 5) ∧ n = 2 + 3 * o_P n ∧ (50 ≤ c 1 ∧ c 1 ≤ 54) ∧ ∀ p, 0 ≤ p → p < o_P n → (48 ≤ c (2 + 3 * p + 2) ∧ c (2 + 3 * p + 2) < c 1) ∧ (0 ≤ tx_kd (c (2 + 3 * p + 1)) ∧ tx_kd (c (2 + 3 * p + 1)) ≤ 2) := by
  rcases h with ⟨_, h1, h2, h3⟩ | ⟨z, _⟩ | ⟨z, z2, _⟩
  · have h17 := tx_n17 h1 h2 h3
    unfold o_P
    refine ⟨by omega, by omega, ?_, fun p p0 p1 => ?_⟩
    · have a := h3 1 (by omega) (by omega)
      unfold tx_on at a
      rw [if_neg (by omega), if_pos (by omega)] at a
      exact of_decide_eq_true a
    · have a := h3 (2 + 3 * p + 1) (by omega) (by omega)
      have b := h3 (2 + 3 * p + 2) (by omega) (by omega)
      unfold tx_on at a b
      rw [if_neg (by omega), if_neg (by omega), if_neg (by omega), if_pos (by omega)] at a
      rw [if_neg (by omega), if_neg (by omega), if_neg (by omega), if_neg (by omega)] at b
      have a2 := of_decide_eq_true a
      have b2 := of_decide_eq_true b
      refine ⟨by omega, ?_⟩
      unfold tx_kd
      rcases a2 with z | z | z
      · rw [if_pos z]; omega
      · rw [if_neg (by omega), if_pos z]; omega
      · rw [if_neg (by omega), if_neg (by omega), if_pos z]; omega
  · omega
  · omega
theorem tx_ffb {c : Int → Int} {n v : Int} (h : tx_ff c n v) : -9 ≤ v ∧ v ≤ n ∨ v = -9 := by
  rcases h with ⟨z, _⟩ | ⟨z, z2, _⟩ | ⟨z, z2, _⟩ <;> omega
/-- what a call does that tells cells of a sheet: which fault it leaves -/
def o_fl (h : am_H) (k l i n : Int) : Int := sh_as (h (3 + 2 * k) 0) (h (3 + 2 * k) 1) l i n
def o_c (h : am_H) (k i : Int) : Int → Int := fun t => sh_at h (3 + 2 * k) (i + t)
theorem t_ring {ρ h : am_H} {A L S K k l i n : Int} (hI : cl_I ρ h A L S K) : am_CT mX7_ring 0 0 [am_R 1, am_I k, am_I l, am_I i, am_I n] ρ h (fun r ρ' h' => ρ' = ρ ∧ cl_I ρ h' A L S K ∧
    ((¬ (0 ≤ k ∧ k < 4) ∧ r = some (am_I (-1)) ∧ h' = am_u h 1 9 0) ∨ ((0 ≤ k ∧ k < 4) ∧ ¬ (0 ≤ l ∧ l < 3) ∧ r = some (am_I (-2)) ∧ h' = am_u h 1 9 0) ∨ ((0 ≤ k ∧ k < 4) ∧ (0 ≤ l ∧ l < 3) ∧ o_fl h k l i n ≠ 0 ∧ r = some (am_I (-10 - o_fl h k l i n)) ∧ h' = am_u h 1 9 (o_fl h k l i n)) ∨
    ((0 ≤ k ∧ k < 4) ∧ (0 ≤ l ∧ l < 3) ∧ o_fl h k l i n = 0 ∧ ∃ v, tx_ff (o_c h k i) n v ∧ v ≠ -9 ∧ r = some (am_I (-100 - v)) ∧ h' = am_u h 1 9 0) ∨
    ((0 ≤ k ∧ k < 4) ∧ (0 ≤ l ∧ l < 3) ∧ o_fl h k l i n = 0 ∧ tx_ff (o_c h k i) n (-9) ∧ r = some (am_I (o_P n)) ∧ am_fr [1, 11, 12, 13, 19, 29, 33] h h' ∧ h' 1 7 = 0 ∧ h' 1 8 = h 1 8 ∧ h' 1 9 = 0 ∧ h' 33 3 = 0 ∧ h' 11 0 = o_c h k i 1 - 48 ∧ h' 11 1 = o_P n ∧ ∀ p, 0 ≤ p → p < o_P n → h' 12 p = tx_kd (o_c h k i (2 + 3 * p + 1)) ∧ h' 13 p = o_c h k i (2 + 3 * p + 2) - 48))) := by
  obtain ⟨i1, i2, i3, i4⟩ := id hI
  have hC := i2.1
  have hn58 := hC.1
  have hR := am_RA11 hC
  have e0 := am_lc hC 1 0 2 (by decide)
  have e1 := am_lc hC 1 1 11 (by decide)
  have e2 := am_lc hC 1 3 19 (by decide)
  have e3 := am_lc hC 1 4 29 (by decide)
  have e4 := am_lc hC 1 5 33 (by decide)
  have e5 := am_lc hC 2 (-1) 4 (by decide)
  have k0 : am_in ρ 19 0 := ⟨by omega, by omega, rfl⟩
  have k1 : am_in ρ 29 5 := ⟨by omega, by omega, rfl⟩
  have hA := i2.2.2.1.2.1
  have hSS := i2.2.2.2.1.2.1
  have hI9 : ∀ f, cl_I ρ (am_u h 1 9 f) A L S K := fun f => cl_I_fr (fun x j z => am_u_n (by omega)) hI
  have fin : ∀ h', (0 ≤ k ∧ k < 4) → o_fl h k l i n = 0 → tx_ff (o_c h k i) n (-9) → am_fr [1, 11, 12, 13, 19, 29, 33] h h' → h' 19 7 = 0 → h' 29 4 = -9 → h' 33 3 = 0 → h' 11 0 = o_c h k i 1 - 48 → h' 11 1 = o_P n → (∀ p, 0 ≤ p → p < o_P n → h' 12 p = tx_kd (o_c h k i (2 + 3 * p + 1)) ∧ h' 13 p = o_c h k i (2 + 3 * p + 2) - 48) → cl_I ρ h' A L S K := fun h' hk hf hx ff f1 f2 f3 f4 f5 f6 => by
    obtain ⟨r1, r2, r3, r4⟩ := tx_ring hx
    refine ⟨⟨Or.inr ⟨⟨by omega, by omega, by omega, by omega, fun p p0 p1 => ?_⟩, fun p p0 p1 => ?_⟩, fun q q0 q1 => ?_, by omega, by omega, fun q q0 q1 => by omega⟩, i2, Or.inl f1, fun q q0 q1 => ?_, Or.inl f2⟩
    · rw [f5] at p1
      have z := r4 p p0 p1
      show 0 ≤ h' 13 p ∧ h' 13 p < h' 11 0
      rw [(f6 p p0 p1).2, f4]
      omega
    · rw [f5] at p1
      rw [(f6 p p0 p1).1]
      exact (r4 p p0 p1).2
    · have z := i1.2.1 q q0 q1
      unfold am_SO at z ⊢
      rw [ff _ 0 (by simp <;> omega), ff _ 1 (by simp <;> omega)]
      exact z
    · rw [ff _ q (by simp <;> omega)]
      exact i4.1 q q0 q1
  refine am_ct (ls := [some (am_R 1), some (am_I k), some (am_I l), some (am_I i), some (am_I n), none, none]) ok_X7_ring rfl (fun _ => Nat.le_of_ble_eq_true rfl) (fun _ => rfl) (by intro v hv; simpa using hv) ?_
  refine am_aload_n (pc' := 1) dX7_ring_0 rfl rfl rfl ?_
  refine am_iconst (pc' := 2) dX7_ring_1 rfl rfl ?_
  refine am_putIk (ki := 9) (pc' := 5) (k := 9) (ci := 6) rfl dX7_ring_2 rfl fl_X7_56 (by first | assumption | exact ⟨by omega, by omega, rfl⟩) rfl (fun _ _ _ e => by cases e; rfl) ?_
  refine am_iload_n (pc' := 6) dX7_ring_5 rfl rfl rfl ?_
  refine am_callSp (pc' := 9) (as := [_])  rfl dX7_ring_6 rfl ok_X7_isSheet ml_X7_60 sm_X7_isSheet (Nat.le_of_ble_eq_true rfl) rfl (Nat.le_of_ble_eq_true rfl) (t_isSheet) ?_
  refine am_if_ne (pc' := 12) (tgt := 14) dX7_ring_9 rfl rfl (fun c_9 => ?_) (fun c_9 => ?_)
  · simp only [am_z0, am_z1, ne_eq] at c_9
    refine am_iload_n (pc' := 15) dX7_ring_14 rfl rfl rfl ?_
    refine am_callSp (pc' := 18) (as := [_])  rfl dX7_ring_15 rfl ok_X7_isLane ml_X7_64 sm_X7_isLane (Nat.le_of_ble_eq_true rfl) rfl (Nat.le_of_ble_eq_true rfl) (t_isLane) ?_
    refine am_if_ne (pc' := 21) (tgt := 24) dX7_ring_18 rfl rfl (fun c_18 => ?_) (fun c_18 => ?_)
    · simp only [am_z0, am_z1, ne_eq] at c_18
      have hk : 0 ≤ k ∧ k < 4 := by omega
      obtain ⟨hS, eS⟩ := am_SAk hC hk.1 hk.2
      obtain ⟨s1, s2, s3, s4⟩ := id hS
      have hO := (i1.2.1 k (by omega) (by omega)).1
      have u0 : am_u h 1 9 0 (3 + 2 * k) 0 = h (3 + 2 * k) 0 := am_u_n (by omega)
      have u1 : am_u h 1 9 0 (3 + 2 * k) 1 = h (3 + 2 * k) 1 := am_u_n (by omega)
      have hb := sh_asb (h (3 + 2 * k) 0) (h (3 + 2 * k) 1) l i n
      refine am_aload_n (pc' := 25) dX7_ring_24 rfl rfl rfl ?_
      refine am_getRk (ki := 0) (pc' := 28) (k := 0) (ci := 6) rfl dX7_ring_25 rfl fl_X7_13 (by first | assumption | exact ⟨by omega, by omega, rfl⟩) rfl (by assumption) (by omega) ?_
      refine am_iload_n (pc' := 29) dX7_ring_28 rfl rfl rfl ?_
      refine am_aaload (pc' := 30) dX7_ring_29 rfl (by first | assumption | exact ⟨by omega, by omega, rfl⟩) (by omega) (by omega) (by assumption) (by omega) ?_
      refine am_astore (pc' := 32) (ls' := [_, _, _, _, _, _, _]) dX7_ring_30 rfl (Nat.le_of_ble_eq_true rfl) rfl rfl ?_
      refine am_aload_n (pc' := 33) dX7_ring_32 rfl rfl rfl ?_
      refine am_aload (pc' := 35) dX7_ring_33 rfl rfl ?_
      refine am_iload_n (pc' := 36) dX7_ring_35 rfl rfl rfl ?_
      refine am_iload_n (pc' := 37) dX7_ring_36 rfl rfl rfl ?_
      refine am_iload (pc' := 39) dX7_ring_37 rfl rfl ?_
      refine am_callVp (pc' := 42) (as := [_, _, _]) (ci := 4)  rfl dX7_ring_39 rfl ok_X4_faultAs ml_X7_67 im_X4_faultAs se_X4_faultAs rfl (Nat.le_of_ble_eq_true rfl) rfl (Nat.le_of_ble_eq_true rfl) (by first | assumption | exact ⟨by omega, by omega, rfl⟩) (t_faultAs hS (am_SO_u (by omega) hO)) ?_
      rw [u0, u1]
      change am_WP _ _ _ _ _ [am_I (o_fl h k l i n), am_R 1] _ _ _
      refine am_putIk (ki := 9) (pc' := 45) (k := 9) (ci := 6) rfl dX7_ring_42 rfl fl_X7_56 (by first | assumption | exact ⟨by omega, by omega, rfl⟩) rfl (fun _ _ _ e => by cases e; rfl) ?_
      rw [am_uu]
      refine am_aload_n (pc' := 46) dX7_ring_45 rfl rfl rfl ?_
      refine am_getIk (ki := 9) (pc' := 49) (k := 9) (ci := 6) rfl dX7_ring_46 rfl fl_X7_56 (by first | assumption | exact ⟨by omega, by omega, rfl⟩) rfl ?_
      rw [am_u_s]
      refine am_if_eq (pc' := 52) (tgt := 57) dX7_ring_49 rfl rfl (fun c_49 => ?_) (fun c_49 => ?_)
      · have hz := sh_as0 (show sh_as (h (3 + 2 * k) 0) (h (3 + 2 * k) 1) l i n = 0 from c_49)
        unfold am_SO at hO
        refine am_aload (pc' := 59) dX7_ring_57 rfl rfl ?_
        refine am_iload_n (pc' := 60) dX7_ring_59 rfl rfl rfl ?_
        refine am_iload (pc' := 62) dX7_ring_60 rfl rfl ?_
        refine am_callS0 (pc' := 65) (as := [_, _, _])  rfl dX7_ring_62 rfl ok_X6_firstFault ml_X7_75 sm_X6_firstFault (Nat.le_of_ble_eq_true rfl) rfl (Nat.le_of_ble_eq_true rfl) (t_firstFault (i := i) (n := n) hS (am_SO_u (by omega) hO) (by omega) (by omega)) (fun r_62 ρ_62 h_62 q_62 g_62 e_62 => ?_)
        obtain ⟨rfl, r2, v, rfl, hv⟩ := q_62
        have hc9 : (fun t => sh_at (am_u h 1 9 (o_fl h k l i n)) (3 + 2 * k) (i + t)) = o_c h k i := funext fun t => sh_at_u (by omega)
        rw [hc9] at hv
        rw [r2]
        have hvb := tx_ffb hv
        refine am_istore (pc' := 67) (ls' := [_, _, _, _, _, _, _]) dX7_ring_65 rfl (Nat.le_of_ble_eq_true rfl) rfl rfl ?_
        refine am_iload (pc' := 69) dX7_ring_67 rfl rfl ?_
        refine am_bipush (pc' := 71) dX7_ring_69 rfl rfl (by decide) ?_
        refine am_icmp_eq (pc' := 74) (tgt := 80) dX7_ring_71 rfl rfl (fun c_71 => ?_) (fun c_71 => ?_)
        · rw [c_71] at hv
          obtain ⟨t1, t2, t3, t4⟩ := tx_ring hv
          have hcc : ∀ t, sh_at (am_u h 1 9 (o_fl h k l i n)) (3 + 2 * k) (i + t) = o_c h k i t := fun t => sh_at_u (by omega)
          refine am_aload (pc' := 82) dX7_ring_80 rfl rfl ?_
          refine am_iload_n (pc' := 83) dX7_ring_82 rfl rfl rfl ?_
          refine am_iload (pc' := 85) dX7_ring_83 rfl rfl ?_
          refine am_aload_n (pc' := 86) dX7_ring_85 rfl rfl rfl ?_
          refine am_getRk (ki := 1) (pc' := 89) (k := 1) (ci := 6) rfl dX7_ring_86 rfl fl_X7_21 (by first | assumption | exact ⟨by omega, by omega, rfl⟩) rfl (by assumption) (by omega) ?_
          refine am_callS0 (pc' := 92) (as := [_, _, _, _])  rfl dX7_ring_89 rfl ok_X6_take ml_X7_81 sm_X6_take (Nat.le_of_ble_eq_true rfl) rfl (Nat.le_of_ble_eq_true rfl) (t_take (P := o_P n) hS (am_SO_u (by omega) hO) hR (Or.inl (by omega)) (by omega) t1 t2 (by rw [hcc]; exact t3) (fun p p0 p1 => by rw [hcc]; have := (t4 p p0 p1).1; omega)) (fun r_89 ρ_89 h_89 q_89 g_89 e_89 => ?_)
          obtain ⟨rfl, rfl, m1, m2, m3, m4⟩ := q_89
          rw [hcc] at m2
          refine am_aload_n (pc' := 93) dX7_ring_92 rfl rfl rfl ?_
          refine am_iconst (pc' := 94) dX7_ring_93 rfl rfl ?_
          refine am_putIk (ki := 7) (pc' := 97) (k := 7) (ci := 6) rfl dX7_ring_94 rfl fl_X7_85 (by first | assumption | exact ⟨by omega, by omega, rfl⟩) rfl (fun _ _ _ e => by cases e; rfl) ?_
          refine am_aload_n (pc' := 98) dX7_ring_97 rfl rfl rfl ?_
          refine am_getRk (ki := 5) (pc' := 101) (k := 5) (ci := 6) rfl dX7_ring_98 rfl fl_X7_45 (by first | assumption | exact ⟨by omega, by omega, rfl⟩) rfl (by assumption) (by omega) ?_
          refine am_iconst (pc' := 102) dX7_ring_101 rfl rfl ?_
          refine am_putIk (ki := 3) (pc' := 105) (k := 3) (ci := 2) rfl dX7_ring_102 rfl fl_X7_88 (by first | assumption | exact ⟨by omega, by omega, rfl⟩) rfl (fun _ _ _ e => by cases e; rfl) ?_
          refine am_aload_n (pc' := 106) dX7_ring_105 rfl rfl rfl ?_
          refine am_getRk (ki := 3) (pc' := 109) (k := 3) (ci := 6) rfl dX7_ring_106 rfl fl_X7_31 (by first | assumption | exact ⟨by omega, by omega, rfl⟩) rfl (by assumption) (by omega) ?_
          refine am_callV0 (pc' := 112) (as := []) (ci := 0)  rfl dX7_ring_109 rfl ok_X0_forget ml_X7_91 im_X0_forget se_X0_forget rfl (Nat.le_of_ble_eq_true rfl) rfl (Nat.le_of_ble_eq_true rfl) (by first | assumption | exact ⟨by omega, by omega, rfl⟩) (t_forgetA hC) (fun r_109 ρ_109 h_109 q_109 g_109 e_109 => ?_)
          obtain ⟨rfl, rfl, rfl⟩ := q_109
          refine am_aload_n (pc' := 113) dX7_ring_112 rfl rfl rfl ?_
          refine am_getRk (ki := 4) (pc' := 116) (k := 4) (ci := 6) rfl dX7_ring_113 rfl fl_X7_38 (by first | assumption | exact ⟨by omega, by omega, rfl⟩) rfl (by assumption) (by omega) ?_
          refine am_callV0 (pc' := 119) (as := []) (ci := 5)  rfl dX7_ring_116 rfl ok_X5_forget ml_X7_94 im_X5_forget se_X5_forget rfl (Nat.le_of_ble_eq_true rfl) rfl (Nat.le_of_ble_eq_true rfl) (by first | assumption | exact ⟨by omega, by omega, rfl⟩) (t_forgetS hC) (fun r_116 ρ_116 h_116 q_116 g_116 e_116 => ?_)
          obtain ⟨rfl, rfl, rfl⟩ := q_116
          refine am_aload_n (pc' := 120) dX7_ring_119 rfl rfl rfl ?_
          refine am_getRk (ki := 1) (pc' := 123) (k := 1) (ci := 6) rfl dX7_ring_120 rfl fl_X7_21 (by first | assumption | exact ⟨by omega, by omega, rfl⟩) rfl (by assumption) (by omega) ?_
          refine am_getIk (ki := 1) (pc' := 126) (k := 1) (ci := 3) rfl dX7_ring_123 rfl fl_X7_95 (by first | assumption | exact ⟨by omega, by omega, rfl⟩) rfl ?_
          refine am_reti dX7_ring_126 rfl ?_
          have F1 : am_fr [1, 11, 12, 13, 19, 29, 33] h (am_u (am_u (am_u (am_u h_89 1 7 0) 33 3 0) 19 7 0) 29 4 (-9)) := am_fr_u (am_fr_u (am_fr_u (am_fr_u (fun x j hx => by
            rw [m1 x j (by simp at hx ⊢; omega), am_u_n (by simp at hx; omega)]) (by simp <;> omega)) (by simp <;> omega)) (by simp <;> omega)) (by simp <;> omega)
          have F2 : ∀ x j, x = 11 ∨ x = 12 ∨ x = 13 → am_u (am_u (am_u (am_u h_89 1 7 0) 33 3 0) 19 7 0) 29 4 (-9) x j = h_89 x j := fun x j z => by
            rw [am_u_n (by omega), am_u_n (by omega), am_u_n (by omega), am_u_n (by omega)]
          have F3 : ∀ p, 0 ≤ p → p < o_P n → am_u (am_u (am_u (am_u h_89 1 7 0) 33 3 0) 19 7 0) 29 4 (-9) 12 p = tx_kd (o_c h k i (2 + 3 * p + 1)) ∧ am_u (am_u (am_u (am_u h_89 1 7 0) 33 3 0) 19 7 0) 29 4 (-9) 13 p = o_c h k i (2 + 3 * p + 2) - 48 := fun p p0 p1 => by
            rw [F2 12 p (by omega), F2 13 p (by omega), ← hcc, ← hcc]; exact m4 p p0 p1
          have F4 : am_u (am_u (am_u (am_u h_89 1 7 0) 33 3 0) 19 7 0) 29 4 (-9) 33 3 = 0 := by rw [am_u_n (by omega), am_u_n (by omega), am_u_s]
          have F5 := (F2 11 0 (by omega)).trans m2
          have F6 := (F2 11 1 (by omega)).trans m3
          refine ⟨rfl, fin _ hk c_49 hv F1 (by rw [am_u_n (by omega), am_u_s]) (am_u_s _ _ _ _) F4 F5 F6 F3, Or.inr (Or.inr (Or.inr (Or.inr ⟨hk, by omega, c_49, hv, by rw [F6], F1, ?_, ?_, ?_, F4, F5, F6, F3⟩)))⟩
          · rw [am_u_n (by omega), am_u_n (by omega), am_u_n (by omega), am_u_s]
          · rw [am_u_n (by omega), am_u_n (by omega), am_u_n (by omega), am_u_n (by omega), m1 1 8 (by simp <;> omega), am_u_n (by omega)]
          · rw [am_u_n (by omega), am_u_n (by omega), am_u_n (by omega), am_u_n (by omega), m1 1 9 (by simp <;> omega), am_u_s]; exact c_49
        · refine am_bipush (pc' := 76) dX7_ring_74 rfl rfl (by decide) ?_
          refine am_iload (pc' := 78) dX7_ring_76 rfl rfl ?_
          refine am_isub (pc' := 79) dX7_ring_78 rfl ⟨by omega, by omega⟩ ?_
          refine am_reti dX7_ring_79 rfl ?_
          exact ⟨rfl, hI9 _, Or.inr (Or.inr (Or.inr (Or.inl ⟨hk, by omega, c_49, v, hv, c_71, rfl, by rw [c_49]⟩)))⟩
      · refine am_aload_n (pc' := 53) dX7_ring_52 rfl rfl rfl ?_
        refine am_callVp (pc' := 56) (as := []) (ci := 6)  rfl dX7_ring_53 rfl ok_X7_answerOfFault ml_X7_71 im_X7_answerOfFault se_X7_answerOfFault rfl (Nat.le_of_ble_eq_true rfl) rfl (Nat.le_of_ble_eq_true rfl) (by first | assumption | exact ⟨by omega, by omega, rfl⟩) (t_answerOfFault hC (by rw [am_u_s]; exact hb)) ?_
        refine am_reti dX7_ring_56 rfl ?_
        exact ⟨rfl, hI9 _, Or.inr (Or.inr (Or.inl ⟨hk, by omega, c_49, by rw [am_u_s], rfl⟩))⟩
    · simp only [am_z0, am_z1, ne_eq] at c_18
      refine am_bipush (pc' := 23) dX7_ring_21 rfl rfl (by decide) ?_
      refine am_reti dX7_ring_23 rfl ?_
      exact ⟨rfl, hI9 0, Or.inr (Or.inl ⟨by omega, by omega, rfl, rfl⟩)⟩
  · simp only [am_z0, am_z1, ne_eq] at c_9
    refine am_iconst (pc' := 13) dX7_ring_12 rfl rfl ?_
    refine am_reti dX7_ring_13 rfl ?_
    exact ⟨rfl, hI9 0, Or.inl ⟨by omega, rfl, rfl⟩⟩
