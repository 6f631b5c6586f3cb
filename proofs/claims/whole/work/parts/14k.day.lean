/-! DifferRings: day, whole -/
def dy_acts (c : Int → Int) (n : Int) : Prop := ∀ a, 0 ≤ a → a < n → dy_act (c (2 * a)) (c (2 * a + 1)) = true
def dy_all (P B : Int) (c : Int → Int) (n : Int) : Prop := ∀ q, 0 ≤ q → q < n → dy_can P B (c (2 * q)) (c (2 * q + 1)) = true
def dy_fw (P B : Int) (c : Int → Int) (n fw : Int) : Prop := (0 ≤ fw ∧ fw < n ∧ dy_can P B (c (2 * fw)) (c (2 * fw + 1)) = false ∧ dy_all P B c fw) ∨ (fw = -9 ∧ dy_all P B c n)
theorem dy_fw_uniq {P B n a b : Int} {c : Int → Int} (h1 : dy_fw P B c n a) (h2 : dy_fw P B c n b) : a = b := by
  rcases h1 with ⟨a1, a2, a3, a4⟩ | ⟨a1, a2⟩ <;> rcases h2 with ⟨b1, b2, b3, b4⟩ | ⟨b1, b2⟩
  · rcases (show a < b ∨ a = b ∨ b < a by omega) with z | z | z
    · rw [b4 a a1 z] at a3; exact absurd a3 (by decide)
    · exact z
    · rw [a4 b b1 z] at b3; exact absurd b3 (by decide)
  · rw [b2 a a1 a2] at a3; exact absurd a3 (by decide)
  · rw [a2 b b1 b2] at b3; exact absurd b3 (by decide)
  · omega
def o_day (P B : Int) (nx kd f0 : Int → Int) (k l n w fl : Int) (c : Int → Int) (v f : Int) : Prop :=
  (¬ (0 ≤ k ∧ k < 4) ∧ v = -1 ∧ f = 0) ∨ ((0 ≤ k ∧ k < 4) ∧ ¬ ((0 ≤ l ∧ l < 3) ∧ (0 ≤ n ∧ n ≤ 20) ∧ o_dw w) ∧ v = -2 ∧ f = 0) ∨ ((0 ≤ k ∧ k < 4) ∧ ((0 ≤ l ∧ l < 3) ∧ (0 ≤ n ∧ n ≤ 20) ∧ o_dw w) ∧ P = 0 ∧ v = -3 ∧ f = 0) ∨ ((0 ≤ k ∧ k < 4) ∧ ((0 ≤ l ∧ l < 3) ∧ (0 ≤ n ∧ n ≤ 20) ∧ o_dw w) ∧ P ≠ 0 ∧ fl ≠ 0 ∧ v = -10 - fl ∧ f = fl) ∨
  ((0 ≤ k ∧ k < 4) ∧ ((0 ≤ l ∧ l < 3) ∧ (0 ≤ n ∧ n ≤ 20) ∧ o_dw w) ∧ P ≠ 0 ∧ fl = 0 ∧ ¬ dy_acts c n ∧ v = -2 ∧ f = 0) ∨
  ((0 ≤ k ∧ k < 4) ∧ ((0 ≤ l ∧ l < 3) ∧ (0 ≤ n ∧ n ≤ 20) ∧ o_dw w) ∧ P ≠ 0 ∧ fl = 0 ∧ dy_acts c n ∧ f = 0 ∧ ∃ fw, dy_fw P B c n fw ∧ o_ofDay nx P B fw (dy_f P B kd c f0 n.toNat) (dy_s c n.toNat) (dy_o P B kd c f0 n.toNat) w v)
def o_dayG (P B k l n w fl : Int) (c : Int → Int) : Prop := (0 ≤ k ∧ k < 4) ∧ ((0 ≤ l ∧ l < 3) ∧ (0 ≤ n ∧ n ≤ 20) ∧ o_dw w) ∧ P ≠ 0 ∧ fl = 0 ∧ dy_acts c n ∧ w = 4 ∧ dy_all P B c n
theorem dy_f_inA {P B : Int} {kd c f : Int → Int} (hP : 2 ≤ P) (hf : mt_ok P B f) {n : Int} (ha : dy_all P B c n) : ∀ m : Nat, (m : Int) ≤ n → mt_ok P B (dy_f P B kd c f m)
  | 0, _ => hf
  | m + 1, hm => by
    have ih := dy_f_inA (kd := kd) hP hf ha m (by omega)
    have hc := ha m (by omega) (by omega)
    unfold dy_can at hc
    have hc2 := of_decide_eq_true hc
    unfold dy_f
    split
    · exact mt_it_in hP ih _
    · rename_i z
      intro p p0 p1
      unfold mt_up
      split
      · rcases hc2 with y | y
        · exact absurd y z
        · exact ⟨y.2.2.1, y.2.2.2⟩
      · exact ih p p0 p1
theorem dy_f_eq {P B : Int} {kd kd' c f f' : Int → Int} (hP : 2 ≤ P) (hk : mt_eq P kd kd') (hf : mt_eq P f f') {n : Int} (_ha : dy_all P B c n) : ∀ m : Nat, (m : Int) ≤ n → mt_eq P (dy_f P B kd c f m) (dy_f P B kd' c f' m)
  | 0, _ => hf
  | m + 1, hm => by
    have ih := dy_f_eq hP hk hf _ha m (by omega)
    unfold dy_f
    split
    · exact mt_it_eq hP hk ih _
    · intro p p0 p1
      unfold mt_up
      split
      · rfl
      · exact ih p p0 p1
theorem dy_o_eq {P B : Int} {kd kd' c f f' : Int → Int} (hP : 2 ≤ P) (hk : mt_eq P kd kd') (hf : mt_eq P f f') {n : Int} (_ha : dy_all P B c n) : ∀ m : Nat, (m : Int) ≤ n → dy_o P B kd c f m = dy_o P B kd' c f' m
  | 0, _ => rfl
  | m + 1, hm => by
    have ih := dy_o_eq hP hk hf _ha m (by omega)
    have e := dy_f_eq hP hk hf _ha (m + 1) hm
    unfold dy_o
    rw [ih, mt_sum_z_eq (by omega) e]
theorem t_day_103 {ρ h1 : am_H} {mc ms : Nat} {ls : List (Option am_V)} {Q : am_Q} (hq : True → Q (some (am_I (-2))) ρ h1) : am_WP mX7_day mc ms 103 ls [] ρ h1 Q := by
  refine am_bipush (pc' := 105) dX7_day_103 rfl rfl (by decide) ?_
  refine am_reti dX7_day_105 rfl ?_
  exact hq trivial
theorem t_day_106 {ρ h h1 : am_H} {A L S K k l i n w : Int} {mc ms : Nat} {Q : am_Q} (hI : cl_I ρ h A L S K) (hk : 0 ≤ k ∧ k < 4) (hok9 : (0 ≤ l ∧ l < 3) ∧ (0 ≤ n ∧ n ≤ 20) ∧ o_dw w) (hP0 : h 11 1 ≠ 0) (e9 : h1 = am_u h 1 9 0) (hac : dy_acts (o_c h k i) n) (hi : 0 ≤ i ∧ i ≤ 60) (hf0 : o_fl h k l i (2 * n) = 0)
    (hbG : o_dayG (h 11 1) (h 11 0) k l n w (o_fl h k l i (2 * n)) (o_c h k i) → wo_b h L (mt_pw (h 11 0) (h 11 1).toNat) mc ms) (hb0 : ¬ o_dayG (h 11 1) (h 11 0) k l n w (o_fl h k l i (2 * n)) (o_c h k i) → mc = 0 ∧ ms = 0)
    (hq : ∀ v ρ' h', cl_Tf 0 h L S K mc ms ρ' h' → (∃ fw, dy_fw (h 11 1) (h 11 0) (o_c h k i) n fw ∧ o_ofDay (o_nx h) (h 11 1) (h 11 0) fw (dy_f (h 11 1) (h 11 0) (h 12) (o_c h k i) (h 13) n.toNat) (dy_s (o_c h k i) n.toNat) (dy_o (h 11 1) (h 11 0) (h 12) (o_c h k i) (h 13) n.toNat) w v) → Q (some (am_I v)) ρ' h') :
    am_WP mX7_day mc ms 106 [some (am_R 1), some (am_I k), some (am_I l), some (am_I i), some (am_I n), some (am_I w), some (am_R (3 + 2 * k))] [] ρ h1 Q := by
  subst e9
  obtain ⟨i1, i2, i3, i4⟩ := id hI
  have hC := i2.1
  have hn58 := hC.1
  have hR := am_RA11 hC
  have hR15 := am_RA15 hC
  have e1 := am_lc hC 1 1 11 (by decide)
  have e3 := am_lc hC 1 2 15 (by decide)
  have e4 := am_lc hC 1 6 37 (by decide)
  have k1 : am_in ρ 37 1 := ⟨by omega, by omega, rfl⟩
  obtain ⟨hS, eS⟩ := am_SAk hC hk.1 hk.2
  have hO := (i1.2.1 k hk.1 hk.2).1
  obtain ⟨hRO, hkd⟩ := cl_RO i1.1 hP0
  obtain ⟨o1, o2, o3, o4, o5⟩ := id hRO
  have u11 : ∀ f j, am_u h 1 9 f 11 j = h 11 j := fun f j => am_u_n (by omega)
  refine am_aload_n (pc' := 107) dX7_day_106 rfl rfl rfl ?_
  refine am_getRk (ki := 2) (pc' := 110) (k := 2) (ci := 6) rfl dX7_day_107 rfl fl_X7_25 (by first | assumption | exact ⟨by omega, by omega, rfl⟩) rfl (by assumption) (by omega) ?_
  refine am_aload_n (pc' := 111) dX7_day_110 rfl rfl rfl ?_
  refine am_getRk (ki := 1) (pc' := 114) (k := 1) (ci := 6) rfl dX7_day_111 rfl fl_X7_21 (by first | assumption | exact ⟨by omega, by omega, rfl⟩) rfl (by assumption) (by omega) ?_
  refine am_callV0 (pc' := 117) (as := [_]) (ci := 3)  rfl dX7_day_114 rfl ok_X3_takeAll ml_X7_150 im_X3_takeAll se_X3_takeAll rfl (Nat.le_of_ble_eq_true rfl) rfl (Nat.le_of_ble_eq_true rfl) (by first | assumption | exact ⟨by omega, by omega, rfl⟩) (t_takeAll hR15 hR (by omega)) (fun r_114 ρ_114 h_114 q_114 g_114 e_114 => ?_)
  obtain ⟨rfl, rfl, q1, q2, q3, q4, q5⟩ := q_114
  rw [u11] at q2 q3
  have p4 : ∀ p, 0 ≤ p → p < 5 → h_114 (15 + 1) p = h 12 p := fun p p0 p1 => (q4 p p0 p1).trans (am_u_n (by omega))
  have p5 : ∀ p, 0 ≤ p → p < 5 → h_114 (15 + 2) p = h 13 p := fun p p0 p1 => (q5 p p0 p1).trans (am_u_n (by omega))
  have z0 : h_114 (3 + 2 * k) 1 = h (3 + 2 * k) 1 := by rw [q1 _ _ (by simp <;> omega), am_u_n (by omega)]
  have hat : (fun t => sh_at h_114 (3 + 2 * k) (i + t)) = o_c h k i := funext fun p => by
    unfold sh_at o_c sh_at
    rw [z0, q1 (3 + 2 * k + 1) _ (by simp <;> omega), am_u_n (by omega)]
  have hO3 : am_RO h_114 15 := ⟨by omega, by omega, by omega, by omega, fun p p0 p1 => by rw [q3] at p1; rw [p5 p p0 (by omega), q2]; exact o5 p p0 p1⟩
  refine am_aload_n (pc' := 118) dX7_day_117 rfl rfl rfl ?_
  refine am_getRk (ki := 6) (pc' := 121) (k := 6) (ci := 6) rfl dX7_day_118 rfl fl_X7_52 (by first | assumption | exact ⟨by omega, by omega, rfl⟩) rfl (by assumption) (by omega) ?_
  refine am_aload_n (pc' := 122) dX7_day_121 rfl rfl rfl ?_
  refine am_getRk (ki := 2) (pc' := 125) (k := 2) (ci := 6) rfl dX7_day_122 rfl fl_X7_25 (by first | assumption | exact ⟨by omega, by omega, rfl⟩) rfl (by assumption) (by omega) ?_
  refine am_aload (pc' := 127) dX7_day_125 rfl rfl ?_
  refine am_iload_n (pc' := 128) dX7_day_127 rfl rfl rfl ?_
  refine am_iload (pc' := 130) dX7_day_128 rfl rfl ?_
  refine am_callV0 (pc' := 133) (as := [_, _, _, _]) (ci := 1)  rfl dX7_day_130 rfl ok_X1_play ml_X7_153 im_X1_play se_X1_play rfl (Nat.le_of_ble_eq_true rfl) rfl (Nat.le_of_ble_eq_true rfl) (by first | assumption | exact ⟨by omega, by omega, rfl⟩) (t_play (r := 15) (x := 3 + 2 * k) (i := i) (n := n) hn58 hR15 (by omega) hO3 hS (by unfold am_SO; rw [z0]; exact hO) (by omega) hi hok9.2.1 (o_c h k i) hat.symm (fun a a0 a1 => hac a a0 a1)) (fun r_130 ρ_130 h_130 q_130 g_130 e_130 => ?_)
  obtain ⟨rfl, rfl, w1, w2⟩ := q_130
  rw [q2, q3] at w2
  have fr : ∀ x j, ¬ (x = 1 ∧ j = 9) → ¬ (15 ≤ x ∧ x ≤ 18) → x ≠ 37 → h_130 x j = h x j := fun x j y1 y2 y3 => by rw [w1 x j (by simp <;> omega), q1 x j (by simp <;> omega), am_u_n y1]
  have f19 : h_130 1 9 = 0 := by rw [w1 1 9 (by simp <;> omega), q1 1 9 (by simp <;> omega), am_u_s]
  have hI2 : cl_I ρ_130 h_130 A L S K := cl_I_fr (fun x j z => fr x j (by omega) (by omega) (by omega)) hI
  have v11 : ∀ j, h_130 11 j = h 11 j := fun j => fr 11 j (by omega) (by omega) (by omega)
  have v12 : h_130 12 = h 12 := funext fun j => fr 12 j (by omega) (by omega) (by omega)
  have eP : h_130 15 1 = h 11 1 := by rw [w1 15 1 (by simp <;> omega), q3]
  have eB : h_130 15 0 = h 11 0 := by rw [w1 15 0 (by simp <;> omega), q2]
  have hfw : dy_fw (h 11 1) (h 11 0) (o_c h k i) n (h_130 37 0) := by
    rcases w2 with ⟨a, b, c, d⟩ | ⟨a, b, _⟩
    · exact Or.inl ⟨a, b, c, d⟩
    · exact Or.inr ⟨a, b⟩
  have hfb : -9 ≤ h_130 37 0 ∧ h_130 37 0 ≤ 20 := by
    rcases w2 with ⟨a, b, _⟩ | ⟨a, _⟩ <;> omega
  have h9 : h_130 37 0 = -9 → dy_all (h 11 1) (h 11 0) (o_c h k i) n ∧ mt_eq (h 11 1) (h_130 17) (dy_f (h 11 1) (h 11 0) (h 12) (o_c h k i) (h 13) n.toNat) ∧ h_130 37 1 = dy_s (o_c h k i) n.toNat ∧ h_130 37 2 = dy_o (h 11 1) (h 11 0) (h 12) (o_c h k i) (h 13) n.toNat := fun z => by
    rcases w2 with ⟨a, _⟩ | ⟨_, b, c, d, e⟩
    · omega
    · exact ⟨b, fun p p0 p1 => (c p p0 p1).trans (dy_f_eq o1 (fun q a b => p4 q a (by omega)) (fun q a b => p5 q a (by omega)) b n.toNat (by omega) p p0 p1), d, e.trans (dy_o_eq o1 (fun q a b => p4 q a (by omega)) (fun q a b => p5 q a (by omega)) b n.toNat (by omega))⟩
  have hb2 : cl_b (w = 4 ∧ h_130 37 0 = -9) h_130 L (mt_pw (h_130 11 0) (h_130 11 1).toNat) mc ms := by
    by_cases zz : w = 4 ∧ h_130 37 0 = -9
    · refine Or.inl ⟨zz, ?_⟩
      have y := hbG ⟨hk, hok9, hP0, hf0, hac, zz.1, (h9 zz.2).1⟩
      unfold wo_b at y ⊢
      rw [v11, v11, fr 19 7 (by omega) (by omega) (by omega)]; exact y
    · refine Or.inr ⟨zz, hb0 (fun g => zz ⟨g.2.2.2.2.2.1, ?_⟩)⟩
      rcases w2 with ⟨a, b, c, _⟩ | ⟨a, _⟩
      · have y := g.2.2.2.2.2.2 _ a b
        rw [y] at c; exact absurd c (by decide)
      · exact a
  refine am_aload_n (pc' := 134) dX7_day_133 rfl rfl rfl ?_
  refine am_iload (pc' := 136) dX7_day_134 rfl rfl ?_
  refine am_callVg (pc' := 139) (as := [_]) (ci := 6) (mc := mc) (bc := 0) (ms := ms) (bs := 0) rfl dX7_day_136 rfl ok_X7_ofDay ml_X7_157 im_X7_ofDay se_X7_ofDay rfl (Nat.le_of_ble_eq_true rfl) rfl (Nat.le_of_ble_eq_true rfl) (by first | assumption | exact ⟨by omega, by omega, rfl⟩) (t_ofDay hI2 (by rw [v11]; exact hP0) (by rw [v11]; exact eP) (by rw [v11]; exact eB) hok9.2.2 hfb (fun z p p0 p1 => by rw [v11] at p1; rw [v11, (h9 z).2.1 p p0 p1]; exact dy_f_inA o1 o5 (h9 z).1 n.toNat (by omega) p p0 p1) hb2) (fun r_136 ρ_136 h_136 q_136 g_136 e_136 => ?_)
  obtain ⟨⟨A', L', y1, y2, y3⟩, v, rfl, y4⟩ := q_136
  refine am_reti dX7_day_139 rfl ?_
  refine hq v _ _ ⟨A', L', y1, fun x j z0 z1 => (y2 x j z0).trans (fr x j z1 (by omega) (by omega)), (y2 1 9 (by omega)).trans f19, by rw [v11, v11] at y3; exact y3⟩ ⟨_, hfw, ?_⟩
  unfold o_nx at y4
  rw [v11, v11, v12] at y4
  exact o_ofDay_eq (fun z => ⟨(h9 z).2.1, (h9 z).2.2.1, (h9 z).2.2.2⟩) y4
theorem t_day {ρ h : am_H} {A L S K k l i n w : Int} {mc ms : Nat} (hI : cl_I ρ h A L S K) (hb : cl_b (o_dayG (h 11 1) (h 11 0) k l n w (o_fl h k l i (2 * n)) (o_c h k i)) h L (mt_pw (h 11 0) (h 11 1).toNat) mc ms) :
    am_CT mX7_day mc ms [am_R 1, am_I k, am_I l, am_I i, am_I n, am_I w] ρ h (fun r ρ' h' => ∃ v f, r = some (am_I v) ∧ cl_Tf f h L S K mc ms ρ' h' ∧ o_day (h 11 1) (h 11 0) (o_nx h) (h 12) (h 13) k l n w (o_fl h k l i (2 * n)) (o_c h k i) v f) := by
  obtain ⟨i1, i2, i3, i4⟩ := id hI
  have hC := i2.1
  have hn58 := hC.1
  have hR := am_RA11 hC
  have hR15 := am_RA15 hC
  have hP5 := cl_P5 i1.1
  have e0 := am_lc hC 1 0 2 (by decide)
  have e1 := am_lc hC 1 1 11 (by decide)
  have e3 := am_lc hC 1 2 15 (by decide)
  have e4 := am_lc hC 1 6 37 (by decide)
  have e5 := am_lc hC 2 (-1) 4 (by decide)
  have k1 : am_in ρ 37 1 := ⟨by omega, by omega, rfl⟩
  have u11 : ∀ f j, am_u h 1 9 f 11 j = h 11 j := fun f j => am_u_n (by omega)
  have hT0 : ∀ f, mc = 0 → ms = 0 → cl_Tf f h L S K mc ms ρ (am_u h 1 9 f) := fun f z1 z2 => ⟨A, L, cl_I_9 hI, fun x j _ z => am_u_n z, am_u_s _ _ _ _, Or.inl ⟨rfl, z1, z2⟩⟩
  have hb0 : ¬ o_dayG (h 11 1) (h 11 0) k l n w (o_fl h k l i (2 * n)) (o_c h k i) → mc = 0 ∧ ms = 0 := fun z => by
    rcases hb with y | y
    · exact absurd y.1 z
    · exact y.2
  have hbG : o_dayG (h 11 1) (h 11 0) k l n w (o_fl h k l i (2 * n)) (o_c h k i) → wo_b h L (mt_pw (h 11 0) (h 11 1).toNat) mc ms := fun z => by
    rcases hb with y | y
    · exact y.2
    · exact absurd z y.1
  have fin : ∀ v f h', (¬ o_dayG (h 11 1) (h 11 0) k l n w (o_fl h k l i (2 * n)) (o_c h k i)) → h' = am_u h 1 9 f → o_day (h 11 1) (h 11 0) (o_nx h) (h 12) (h 13) k l n w (o_fl h k l i (2 * n)) (o_c h k i) v f → ∃ v' f, some (am_I v) = some (am_I v') ∧ cl_Tf f h L S K mc ms ρ h' ∧ o_day (h 11 1) (h 11 0) (o_nx h) (h 12) (h 13) k l n w (o_fl h k l i (2 * n)) (o_c h k i) v' f := fun v f h' z1 z2 z3 => ⟨v, f, rfl, by rw [z2]; exact hT0 f (hb0 z1).1 (hb0 z1).2, z3⟩
  refine am_ct (ls := [some (am_R 1), some (am_I k), some (am_I l), some (am_I i), some (am_I n), some (am_I w), none]) ok_X7_day rfl (fun _ => Nat.le_of_ble_eq_true rfl) (fun _ => rfl) (by intro v hv; simpa using hv) ?_
  refine am_aload_n (pc' := 1) dX7_day_0 rfl rfl rfl ?_
  refine am_iconst (pc' := 2) dX7_day_1 rfl rfl ?_
  refine am_putIk (ki := 9) (pc' := 5) (k := 9) (ci := 6) rfl dX7_day_2 rfl fl_X7_56 (by first | assumption | exact ⟨by omega, by omega, rfl⟩) rfl (fun _ _ _ e => by cases e; rfl) ?_
  refine am_iload_n (pc' := 6) dX7_day_5 rfl rfl rfl ?_
  refine am_callSp (pc' := 9) (as := [_])  rfl dX7_day_6 rfl ok_X7_isSheet ml_X7_60 sm_X7_isSheet (Nat.le_of_ble_eq_true rfl) rfl (Nat.le_of_ble_eq_true rfl) (t_isSheet) ?_
  refine am_if_ne (pc' := 12) (tgt := 14) dX7_day_9 rfl rfl (fun c_9 => ?_) (fun c_9 => ?_)
  · simp only [am_z0, am_z1, ne_eq] at c_9
    refine am_iload_n (pc' := 15) dX7_day_14 rfl rfl rfl ?_
    refine am_callSp (pc' := 18) (as := [_])  rfl dX7_day_15 rfl ok_X7_isLane ml_X7_64 sm_X7_isLane (Nat.le_of_ble_eq_true rfl) rfl (Nat.le_of_ble_eq_true rfl) (t_isLane) ?_
    refine am_if_eq (pc' := 21) (tgt := 41) dX7_day_18 rfl rfl (fun c_18 => ?_) (fun c_18 => ?_)
    · simp only [am_z0, am_z1, ne_eq] at c_18
      refine am_bipush (pc' := 43) dX7_day_41 rfl rfl (by decide) ?_
      refine am_reti dX7_day_43 rfl ?_
      have hno : ¬ ((0 ≤ l ∧ l < 3) ∧ (0 ≤ n ∧ n ≤ 20) ∧ o_dw w) := by unfold o_dw; omega
      exact fin _ 0 _ (fun z => hno z.2.1) rfl (Or.inr (Or.inl ⟨by omega, hno, rfl, rfl⟩))
    · simp only [am_z0, am_z1, ne_eq] at c_18
      refine am_iload (pc' := 23) dX7_day_21 rfl rfl ?_
      refine am_if_lt (pc' := 26) (tgt := 41) dX7_day_23 rfl rfl (fun c_23 => ?_) (fun c_23 => ?_)
      · refine am_bipush (pc' := 43) dX7_day_41 rfl rfl (by decide) ?_
        refine am_reti dX7_day_43 rfl ?_
        have hno : ¬ ((0 ≤ l ∧ l < 3) ∧ (0 ≤ n ∧ n ≤ 20) ∧ o_dw w) := by unfold o_dw; omega
        exact fin _ 0 _ (fun z => hno z.2.1) rfl (Or.inr (Or.inl ⟨by omega, hno, rfl, rfl⟩))
      · refine am_iload (pc' := 28) dX7_day_26 rfl rfl ?_
        refine am_bipush (pc' := 30) dX7_day_28 rfl rfl (by decide) ?_
        refine am_icmp_gt (pc' := 33) (tgt := 41) dX7_day_30 rfl rfl (fun c_30 => ?_) (fun c_30 => ?_)
        · refine am_bipush (pc' := 43) dX7_day_41 rfl rfl (by decide) ?_
          refine am_reti dX7_day_43 rfl ?_
          have hno : ¬ ((0 ≤ l ∧ l < 3) ∧ (0 ≤ n ∧ n ≤ 20) ∧ o_dw w) := by unfold o_dw; omega
          exact fin _ 0 _ (fun z => hno z.2.1) rfl (Or.inr (Or.inl ⟨by omega, hno, rfl, rfl⟩))
        · refine am_iload (pc' := 35) dX7_day_33 rfl rfl ?_
          refine am_callSp (pc' := 38) (as := [_])  rfl dX7_day_35 rfl ok_X7_isOfDay ml_X7_143 sm_X7_isOfDay (Nat.le_of_ble_eq_true rfl) rfl (Nat.le_of_ble_eq_true rfl) (t_isOfDay) ?_
          refine am_if_ne (pc' := 41) (tgt := 44) dX7_day_38 rfl rfl (fun c_38 => ?_) (fun c_38 => ?_)
          · simp only [am_z0, am_z1, ne_eq] at c_38
            have hk : 0 ≤ k ∧ k < 4 := by omega
            have hw9 : o_dw w := by assumption
            have hok9 : (0 ≤ l ∧ l < 3) ∧ (0 ≤ n ∧ n ≤ 20) ∧ o_dw w := ⟨by omega, by omega, hw9⟩
            refine am_aload_n (pc' := 45) dX7_day_44 rfl rfl rfl ?_
            refine am_getRk (ki := 1) (pc' := 48) (k := 1) (ci := 6) rfl dX7_day_45 rfl fl_X7_21 (by first | assumption | exact ⟨by omega, by omega, rfl⟩) rfl (by assumption) (by omega) ?_
            refine am_callVp (pc' := 51) (as := []) (ci := 3)  rfl dX7_day_48 rfl ok_X3_isNone ml_X7_115 im_X3_isNone se_X3_isNone rfl (Nat.le_of_ble_eq_true rfl) rfl (Nat.le_of_ble_eq_true rfl) (by first | assumption | exact ⟨by omega, by omega, rfl⟩) (t_isNone hR) ?_
            refine am_if_eq (pc' := 54) (tgt := 57) dX7_day_51 rfl rfl (fun c_51 => ?_) (fun c_51 => ?_)
            · simp only [am_z0, am_z1, ne_eq] at c_51
              rw [u11] at c_51
              obtain ⟨hS, eS⟩ := am_SAk hC hk.1 hk.2
              obtain ⟨s1, s2, s3, s4⟩ := id hS
              have hO := (i1.2.1 k (by omega) (by omega)).1
              have u0 : am_u h 1 9 0 (3 + 2 * k) 0 = h (3 + 2 * k) 0 := am_u_n (by omega)
              have u1 : am_u h 1 9 0 (3 + 2 * k) 1 = h (3 + 2 * k) 1 := am_u_n (by omega)
              have hfb := sh_asb (h (3 + 2 * k) 0) (h (3 + 2 * k) 1) l i (2 * n)
              refine am_aload_n (pc' := 58) dX7_day_57 rfl rfl rfl ?_
              refine am_getRk (ki := 0) (pc' := 61) (k := 0) (ci := 6) rfl dX7_day_58 rfl fl_X7_13 (by first | assumption | exact ⟨by omega, by omega, rfl⟩) rfl (by assumption) (by omega) ?_
              refine am_iload_n (pc' := 62) dX7_day_61 rfl rfl rfl ?_
              refine am_aaload (pc' := 63) dX7_day_62 rfl (by first | assumption | exact ⟨by omega, by omega, rfl⟩) (by omega) (by omega) (by assumption) (by omega) ?_
              refine am_astore (pc' := 65) (ls' := [_, _, _, _, _, _, _]) dX7_day_63 rfl (Nat.le_of_ble_eq_true rfl) rfl rfl ?_
              refine am_aload_n (pc' := 66) dX7_day_65 rfl rfl rfl ?_
              refine am_aload (pc' := 68) dX7_day_66 rfl rfl ?_
              refine am_iload_n (pc' := 69) dX7_day_68 rfl rfl rfl ?_
              refine am_iload_n (pc' := 70) dX7_day_69 rfl rfl rfl ?_
              refine am_iconst (pc' := 71) dX7_day_70 rfl rfl ?_
              refine am_iload (pc' := 73) dX7_day_71 rfl rfl ?_
              refine am_imul (pc' := 74) dX7_day_73 rfl ⟨by omega, by omega⟩ ?_
              refine am_callVp (pc' := 77) (as := [_, _, _]) (ci := 4)  rfl dX7_day_74 rfl ok_X4_faultAs ml_X7_67 im_X4_faultAs se_X4_faultAs rfl (Nat.le_of_ble_eq_true rfl) rfl (Nat.le_of_ble_eq_true rfl) (by first | assumption | exact ⟨by omega, by omega, rfl⟩) (t_faultAs hS (am_SO_u (by omega) hO)) ?_
              rw [u0, u1]
              change am_WP _ _ _ _ _ [am_I (o_fl h k l i (2 * n)), am_R 1] _ _ _
              refine am_putIk (ki := 9) (pc' := 80) (k := 9) (ci := 6) rfl dX7_day_77 rfl fl_X7_56 (by first | assumption | exact ⟨by omega, by omega, rfl⟩) rfl (fun _ _ _ e => by cases e; rfl) ?_
              rw [am_uu]
              refine am_aload_n (pc' := 81) dX7_day_80 rfl rfl rfl ?_
              refine am_getIk (ki := 9) (pc' := 84) (k := 9) (ci := 6) rfl dX7_day_81 rfl fl_X7_56 (by first | assumption | exact ⟨by omega, by omega, rfl⟩) rfl ?_
              rw [am_u_s]
              refine am_if_eq (pc' := 87) (tgt := 92) dX7_day_84 rfl rfl (fun c_84 => ?_) (fun c_84 => ?_)
              · have hz := sh_as0 (show sh_as (h (3 + 2 * k) 0) (h (3 + 2 * k) 1) l i (2 * n) = 0 from c_84)
                unfold am_SO at hO
                have hRO := (cl_RO i1.1 c_51).1
                have hat : ∀ t, sh_at (am_u h 1 9 (o_fl h k l i (2 * n))) (3 + 2 * k) (i + t) = o_c h k i t := fun t => sh_at_u (by omega)
                refine am_aload (pc' := 94) dX7_day_92 rfl rfl ?_
                refine am_iload_n (pc' := 95) dX7_day_94 rfl rfl rfl ?_
                refine am_iload (pc' := 97) dX7_day_95 rfl rfl ?_
                refine am_callS0 (pc' := 100) (as := [_, _, _])  rfl dX7_day_97 rfl ok_X1_areActs ml_X7_146 sm_X1_areActs (Nat.le_of_ble_eq_true rfl) rfl (Nat.le_of_ble_eq_true rfl) (t_areActs (i := i) (n := n) hS (am_SO_u (by omega) hO) (by omega) (by omega)) (fun r_97 ρ_97 h_97 q_97 g_97 e_97 => ?_)
                obtain ⟨rfl, r2, q7⟩ := q_97
                rw [r2]
                have q8 : (r_97 = some (am_I 1) ∧ dy_acts (o_c h k i) n) ∨ (r_97 = some (am_I 0) ∧ ¬ dy_acts (o_c h k i) n) := by
                  have ee : (∀ a, 0 ≤ a → a < n → dy_act (sh_at (am_u h 1 9 (o_fl h k l i (2 * n))) (3 + 2 * k) (i + 2 * a)) (sh_at (am_u h 1 9 (o_fl h k l i (2 * n))) (3 + 2 * k) (i + 2 * a + 1)) = true) ↔ dy_acts (o_c h k i) n := by
                    unfold dy_acts
                    constructor
                    · intro z a a0 a1
                      have y := z a a0 a1
                      rw [Int.add_assoc, hat, hat] at y
                      exact y
                    · intro z a a0 a1
                      rw [Int.add_assoc, hat, hat]
                      exact z a a0 a1
                  unfold am_tf at q7
                  rw [ee] at q7
                  exact q7
                rcases q8 with ⟨rfl, hac⟩ | ⟨rfl, hac⟩
                · refine am_if_ne (pc' := 103) (tgt := 106) dX7_day_100 rfl rfl (fun c_100 => ?_) (fun c_100 => ?_)
                  · first | (exfalso; omega) | exact t_day_106 (n := n) hI hk hok9 c_51 (by rw [c_84]) hac (by omega) c_84 hbG hb0 (fun v ρ' h' y1 y2 => ⟨v, 0, rfl, y1, Or.inr (Or.inr (Or.inr (Or.inr (Or.inr ⟨hk, hok9, c_51, c_84, hac, rfl, y2⟩))))⟩)
                  · first | (exfalso; omega) | exact t_day_103 (fun hx => fin _ 0 _ (fun z => hac z.2.2.2.2.1) (by rw [c_84]) (Or.inr (Or.inr (Or.inr (Or.inr (Or.inl ⟨hk, hok9, c_51, c_84, hac, rfl, rfl⟩))))))
                · refine am_if_ne (pc' := 103) (tgt := 106) dX7_day_100 rfl rfl (fun c_100 => ?_) (fun c_100 => ?_)
                  · first | (exfalso; omega) | exact t_day_106 (n := n) hI hk hok9 c_51 (by rw [c_84]) hac (by omega) c_84 hbG hb0 (fun v ρ' h' y1 y2 => ⟨v, 0, rfl, y1, Or.inr (Or.inr (Or.inr (Or.inr (Or.inr ⟨hk, hok9, c_51, c_84, hac, rfl, y2⟩))))⟩)
                  · first | (exfalso; omega) | exact t_day_103 (fun hx => fin _ 0 _ (fun z => hac z.2.2.2.2.1) (by rw [c_84]) (Or.inr (Or.inr (Or.inr (Or.inr (Or.inl ⟨hk, hok9, c_51, c_84, hac, rfl, rfl⟩))))))
              · refine am_aload_n (pc' := 88) dX7_day_87 rfl rfl rfl ?_
                refine am_callVp (pc' := 91) (as := []) (ci := 6)  rfl dX7_day_88 rfl ok_X7_answerOfFault ml_X7_71 im_X7_answerOfFault se_X7_answerOfFault rfl (Nat.le_of_ble_eq_true rfl) rfl (Nat.le_of_ble_eq_true rfl) (by first | assumption | exact ⟨by omega, by omega, rfl⟩) (t_answerOfFault hC (by rw [am_u_s]; exact hfb)) ?_
                refine am_reti dX7_day_91 rfl ?_
                exact fin _ _ _ (fun z => c_84 z.2.2.2.1) rfl (Or.inr (Or.inr (Or.inr (Or.inl ⟨hk, hok9, c_51, c_84, by rw [am_u_s], rfl⟩))))
            · simp only [am_z0, am_z1, ne_eq] at c_51
              refine am_bipush (pc' := 56) dX7_day_54 rfl rfl (by decide) ?_
              refine am_reti dX7_day_56 rfl ?_
              rw [u11] at c_51
              exact fin _ 0 _ (fun z => z.2.2.1 c_51) rfl (Or.inr (Or.inr (Or.inl ⟨hk, hok9, c_51, rfl, rfl⟩)))
          · simp only [am_z0, am_z1, ne_eq] at c_38
            refine am_bipush (pc' := 43) dX7_day_41 rfl rfl (by decide) ?_
            refine am_reti dX7_day_43 rfl ?_
            have hno : ¬ ((0 ≤ l ∧ l < 3) ∧ (0 ≤ n ∧ n ≤ 20) ∧ o_dw w) := by unfold o_dw; omega
            exact fin _ 0 _ (fun z => hno z.2.1) rfl (Or.inr (Or.inl ⟨by omega, hno, rfl, rfl⟩))
  · simp only [am_z0, am_z1, ne_eq] at c_9
    refine am_iconst (pc' := 13) dX7_day_12 rfl rfl ?_
    refine am_reti dX7_day_13 rfl ?_
    exact fin _ 0 _ (fun z => c_9 z.1) rfl (Or.inl ⟨c_9, rfl, rfl⟩)
