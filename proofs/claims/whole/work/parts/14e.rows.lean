/-! DifferRings: what it keeps between calls; all rows -/
def cl_I (ρ h : am_H) (A L S K : Int) : Prop := cl_G h ∧ am_LY ρ A L S K ∧ (h 19 7 = 0 ∨ ar_C h A L (h 11 1) (h 11 0) (h 12)) ∧ sp_I h S K (mt_pw (h 11 0) (h 11 1).toNat) (nxt (h 11 1) (h 11 0) (h 12))
theorem cl_G_fr {h h' : am_H} (hf : ∀ x j, (3 ≤ x ∧ x ≤ 13) ∨ (33 ≤ x ∧ x ≤ 36) → h' x j = h x j) (hG : cl_G h) : cl_G h' := by
  have e : ∀ x, (3 ≤ x ∧ x ≤ 13) ∨ (33 ≤ x ∧ x ≤ 36) → h' x = h x := fun x z => funext fun j => hf x j z
  obtain ⟨g1, g2, g3⟩ := hG
  refine ⟨?_, fun k k0 k1 => ?_, ?_⟩
  · unfold cl_R am_RO at g1 ⊢
    rw [e 11 (by omega), e 12 (by omega), show h' (11 + 2) = h (11 + 2) from e 13 (by omega)]
    exact g1
  · have z := g2 k k0 k1
    unfold am_SO at z ⊢
    rw [e (3 + 2 * k) (by omega)]
    exact z
  · unfold rd_OK at g3 ⊢
    rw [e 11 (by omega), e 33 (by omega), e 34 (by omega), e 35 (by omega)]
    exact g3
theorem sp_I_fr {h h' : am_H} {S K N : Int} {nx : Int → Int} (h1 : ∀ k, h' 29 k = h 29 k) (h2 : ∀ x k, S ≤ x → x ≤ S + 2 → h' x k = h x k) (hI : sp_I h S K N nx) : sp_I h' S K N nx := by
  unfold sp_I sp_P sp_V at hI ⊢
  rw [h1 3, h1 4, show h' S = h S from funext fun k => h2 S k (by omega) (by omega), show h' (S + 1) = h (S + 1) from funext fun k => h2 _ k (by omega) (by omega), show h' (S + 2) = h (S + 2) from funext fun k => h2 _ k (by omega) (by omega)]
  exact hI
/-- cells that nothing kept depends on may change -/
theorem cl_I_fr {ρ h h' : am_H} {A L S K : Int} (hf : ∀ x j, (3 ≤ x ∧ x ≤ 13) ∨ (19 ≤ x ∧ x ≤ 20) ∨ (24 ≤ x ∧ x ≤ 36) ∨ 58 ≤ x → h' x j = h x j) (hI : cl_I ρ h A L S K) : cl_I ρ h' A L S K := by
  obtain ⟨i1, i2, i3, i4⟩ := hI
  have hA := i2.2.2.1.2.1
  have hS := i2.2.2.2.1.2.1
  have e11 : ∀ k, h' 11 k = h 11 k := fun k => hf 11 k (by omega)
  have e12 : h' 12 = h 12 := funext fun k => hf 12 k (by omega)
  refine ⟨cl_G_fr (fun x j z => hf x j (by omega)) i1, i2, ?_, ?_⟩
  · rw [e11, e11, e12, hf 19 7 (by omega)]
    rcases i3 with z | z
    · exact Or.inl z
    · exact Or.inr (ar_C_fr (fun k => hf 19 k (by omega)) (fun k => hf 20 k (by omega)) (fun x k z0 z1 => hf x k (by omega)) z)
  · rw [e11, e11, e12]
    exact sp_I_fr (fun k => hf 29 k (by omega)) (fun x k z0 z1 => hf x k (by omega)) i4
/-- how the rows grew -/
def gr_A (L L' N : Int) (mc ms : Nat) : Prop := (L' = L ∧ mc = 0 ∧ ms = 0) ∨ (L < L' ∧ L' = N ∧ mc = 5 ∧ ms = 0 + N.toNat + N.toNat + N.toNat + N.toNat + N.toNat)
theorem t_wo {ρ h : am_H} {A L S K : Int} {mc ms : Nat} (hI : cl_I ρ h A L S K) (h0 : h 11 1 ≠ 0) (hb : wo_b h L (mt_pw (h 11 0) (h 11 1).toNat) mc ms) :
    am_CT mX0_workOut mc ms [am_R 19, am_R 11] ρ h (fun v ρ' h' => v = none ∧ ∃ A' L', cl_I ρ' h' A' L' S K ∧ ar_Q ρ' h' A' L' (h 11 1) (h 11 0) (h 12) ∧ (∀ x j, (1 ≤ x ∧ x ≤ 18) ∨ (29 ≤ x ∧ x ≤ 57) → h' x j = h x j) ∧ h' 19 7 = mt_pw (h 11 0) (h 11 1).toNat ∧ gr_A L L' (mt_pw (h 11 0) (h 11 1).toNat) mc ms) := by
  obtain ⟨i1, i2, i3, i4⟩ := hI
  have hn58 := i2.1.1
  have hA := i2.2.2.1.2.1
  have hS := i2.2.2.2.1.2
  have hd := i2.2.2.2.2
  obtain ⟨⟨o1, o2, o3, o4, o5⟩, o6⟩ := cl_RO i1.1 h0
  refine am_CT_mono (t_workOut i2 ⟨⟨o1, o2⟩, o3, o4⟩ i3 hb) (fun v ρ' h' q => ?_)
  obtain ⟨rfl, A', L', q1, q2, q3, q4⟩ := q
  have f : ∀ x j, (1 ≤ x ∧ x ≤ 18) ∨ (29 ≤ x ∧ x ≤ 57) → h' x j = h x j := fun x j z => q3 x j (by omega) (by omega) (by omega)
  have e11 : ∀ k, h' 11 k = h 11 k := fun k => f 11 k (by omega)
  have e12 : h' 12 = h 12 := funext fun k => f 12 k (by omega)
  refine ⟨rfl, A', L', ⟨cl_G_fr (fun x j z => f x j (by omega)) i1, q1, Or.inr ?_, ?_⟩, ⟨q1.1, q1.2.2.1, q2, ⟨o1, o2⟩, o3, o4⟩, f, q2.1.2.2.1, ?_⟩
  · rw [e11, e11, e12]; exact q2
  · rw [e11, e11, e12]
    exact sp_I_fr (fun k => f 29 k (by omega)) (fun x k z0 z1 => q3 x k (by omega) (by omega) (by omega)) i4
  · rcases q4 with ⟨_, z2, z3, z4⟩ | ⟨z1, z2, z3, z4⟩
    · exact Or.inl ⟨z2, z3, z4⟩
    · exact Or.inr ⟨z1, z2, z3, by rw [← z2]; exact z4⟩
/-- the budgets of a call that works all rows out if g -/
def cl_b (g : Prop) (h : am_H) (L N : Int) (mc ms : Nat) : Prop := (g ∧ wo_b h L N mc ms) ∨ (¬ g ∧ mc = 0 ∧ ms = 0)
/-- nothing that is seen has changed -/
def cl_T (ρ h : am_H) (L S K : Int) (mc ms : Nat) (ρ' h' : am_H) : Prop := ∃ A' L', cl_I ρ' h' A' L' S K ∧ (∀ x j, (1 ≤ x ∧ x ≤ 13) ∨ (33 ≤ x ∧ x ≤ 36) ∨ (38 ≤ x ∧ x ≤ 57) → h' x j = h x j) ∧ gr_A L L' (mt_pw (h 11 0) (h 11 1).toNat) mc ms
def o_g3 (i : Prop) (P : Int) (A : Int → Prop) (v : Int) : Prop := (¬ i ∧ v = -2) ∨ (i ∧ P = 0 ∧ v = -3) ∨ (i ∧ P ≠ 0 ∧ A v)
def o_row (h : am_H) : Int := mt_cd (h 11 0) (h 13) (h 11 1).toNat
def o_nx (h : am_H) : Int → Int := nxt (h 11 1) (h 11 0) (h 12)
def o_N (h : am_H) : Int := mt_pw (h 11 0) (h 11 1).toNat
theorem o_row_in {h : am_H} (hO : am_RO h 11) : 0 ≤ o_row h ∧ o_row h < o_N h := mt_cd_in hO.2.2.1 (fun p p0 p1 => hO.2.2.2.2 p p0 (by omega))
def o_now (nx : Int → Int) (c w v : Int) : Prop := (w = 0 ∧ gr_tl nx c v) ∨ (w = 1 ∧ gr_rd nx c v) ∨ (w ≠ 0 ∧ w ≠ 1 ∧ ((v = 1 ∧ gr_out nx c) ∨ (v = 0 ∧ ¬ gr_out nx c)))
theorem t_now {ρ h : am_H} {A L S K w : Int} {mc ms : Nat} (hI : cl_I ρ h A L S K) (hb : cl_b ((0 ≤ w ∧ w ≤ 2) ∧ h 11 1 ≠ 0) h L (mt_pw (h 11 0) (h 11 1).toNat) mc ms) :
    am_CT mX7_now mc ms [am_R 1, am_I w] ρ h (fun r ρ' h' => cl_T ρ h L S K mc ms ρ' h' ∧ ∃ v, r = some (am_I v) ∧ o_g3 (0 ≤ w ∧ w ≤ 2) (h 11 1) (o_now (o_nx h) (o_row h) w) v) := by
  have hC := hI.2.1.1
  have hn58 := hC.1
  have hR := am_RA11 hC
  have e1 := am_lc hC 1 1 11 (by decide)
  have e2 := am_lc hC 1 3 19 (by decide)
  have k0 : am_in ρ 19 0 := ⟨by omega, by omega, rfl⟩
  refine am_ct (ls := [some (am_R 1), some (am_I w), none]) ok_X7_now rfl (fun _ => Nat.le_of_ble_eq_true rfl) (fun _ => rfl) (by intro v hv; simpa using hv) ?_
  rcases hb with ⟨hg, hb⟩ | ⟨hg, rfl, rfl⟩
  · have hO := (cl_RO hI.1.1 hg.2).1
    have hrow := o_row_in hO
    refine am_iload_n (pc' := 1) dX7_now_0 rfl rfl rfl ?_
    refine am_if_lt (pc' := 4) (tgt := 9) dX7_now_1 rfl rfl (fun c_1 => ?_) (fun c_1 => ?_)
    · exfalso; omega
    · refine am_iload_n (pc' := 5) dX7_now_4 rfl rfl rfl ?_
      refine am_iconst (pc' := 6) dX7_now_5 rfl rfl ?_
      refine am_icmp_le (pc' := 9) (tgt := 12) dX7_now_6 rfl rfl (fun c_6 => ?_) (fun c_6 => ?_)
      · refine am_aload_n (pc' := 13) dX7_now_12 rfl rfl rfl ?_
        refine am_getRk (ki := 1) (pc' := 16) (k := 1) (ci := 6) rfl dX7_now_13 rfl fl_X7_21 (by first | assumption | exact ⟨by omega, by omega, rfl⟩) rfl (by assumption) (by omega) ?_
        refine am_callVp (pc' := 19) (as := []) (ci := 3)  rfl dX7_now_16 rfl ok_X3_isNone ml_X7_115 im_X3_isNone se_X3_isNone rfl (Nat.le_of_ble_eq_true rfl) rfl (Nat.le_of_ble_eq_true rfl) (by first | assumption | exact ⟨by omega, by omega, rfl⟩) (t_isNone hR) ?_
        refine am_if_eq (pc' := 22) (tgt := 25) dX7_now_19 rfl rfl (fun c_19 => ?_) (fun c_19 => ?_)
        · simp only [am_z0, am_z1, ne_eq] at c_19
          refine am_aload_n (pc' := 26) dX7_now_25 rfl rfl rfl ?_
          refine am_getRk (ki := 3) (pc' := 29) (k := 3) (ci := 6) rfl dX7_now_26 rfl fl_X7_31 (by first | assumption | exact ⟨by omega, by omega, rfl⟩) rfl (by assumption) (by omega) ?_
          refine am_aload_n (pc' := 30) dX7_now_29 rfl rfl rfl ?_
          refine am_getRk (ki := 1) (pc' := 33) (k := 1) (ci := 6) rfl dX7_now_30 rfl fl_X7_21 (by first | assumption | exact ⟨by omega, by omega, rfl⟩) rfl (by assumption) (by omega) ?_
          refine am_callVg (pc' := 36) (as := [_]) (ci := 0) (mc := mc) (bc := 0) (ms := ms) (bs := 0) rfl dX7_now_33 rfl ok_X0_workOut ml_X7_128 im_X0_workOut se_X0_workOut rfl (Nat.le_of_ble_eq_true rfl) rfl (Nat.le_of_ble_eq_true rfl) (by first | assumption | exact ⟨by omega, by omega, rfl⟩) (t_wo hI hg.2 hb) (fun r_33 ρ_33 h_33 q_33 g_33 e_33 => ?_)
          obtain ⟨rfl, A', L', q1, q2, q3, q4, q5⟩ := q_33
          have hC2 := q2.1
          have n2 := hC2.1
          have x1 := am_lc hC2 1 1 11 (by decide)
          have x2 := am_lc hC2 1 3 19 (by decide)
          have hN := ar_QN q2
          have hT : cl_T ρ h L S K mc ms ρ_33 h_33 := ⟨A', L', q1, fun x j z => q3 x j (by omega), q5⟩
          have hD := q2.2.1
          have u0 : ∀ k, h_33 11 k = h 11 k := fun k => q3 11 k (by omega)
          have hO2 : am_RO h_33 11 := (cl_RO q1.1.1 (by rw [u0]; exact hg.2)).1
          have er : mt_cd (h_33 11 0) (h_33 (11 + 2)) (h_33 11 1).toNat = o_row h := by
            rw [u0, u0, show h_33 (11 + 2) = h 13 from funext fun k => q3 13 k (by omega)]; rfl
          have hr2 : 0 ≤ o_row h ∧ o_row h < h_33 19 7 := by rw [q4]; exact hrow
          refine am_aload_n (pc' := 37) dX7_now_36 rfl rfl rfl ?_
          refine am_getRk (ki := 1) (pc' := 40) (k := 1) (ci := 6) rfl dX7_now_37 rfl fl_X7_21 (by first | assumption | exact ⟨by omega, by omega, rfl⟩) rfl (by assumption) (by omega) ?_
          refine am_callVp (pc' := 43) (as := []) (ci := 3)  rfl dX7_now_40 rfl ok_X3_code ml_X7_132 im_X3_code se_X3_code rfl (Nat.le_of_ble_eq_true rfl) rfl (Nat.le_of_ble_eq_true rfl) (by first | assumption | exact ⟨by omega, by omega, rfl⟩) (t_code (am_RA11 hC2) hO2) ?_
          rw [er]
          refine am_istore_n (pc' := 44) (ls' := [_, _, _]) dX7_now_43 rfl rfl (Nat.le_of_ble_eq_true rfl) rfl rfl ?_
          refine am_iload_n (pc' := 45) dX7_now_44 rfl rfl rfl ?_
          refine am_case (0) (fun c_45_0 => ?_) (fun c_45_0 => ?_)
          · refine am_look (pc' := 72) (off := 27) dX7_now_45 rfl rfl rfl ?_
            refine am_aload_n (pc' := 73) dX7_now_72 rfl rfl rfl ?_
            refine am_getRk (ki := 3) (pc' := 76) (k := 3) (ci := 6) rfl dX7_now_73 rfl fl_X7_31 (by first | assumption | exact ⟨by omega, by omega, rfl⟩) rfl (by assumption) (by omega) ?_
            refine am_iload_n (pc' := 77) dX7_now_76 rfl rfl rfl ?_
            refine am_callVp (pc' := 80) (as := [_]) (ci := 0)  rfl dX7_now_77 rfl ok_X0_tailOf ml_X7_172 im_X0_tailOf se_X0_tailOf rfl (Nat.le_of_ble_eq_true rfl) rfl (Nat.le_of_ble_eq_true rfl) (by first | assumption | exact ⟨by omega, by omega, rfl⟩) (t_tailOf hD hN.2.2.1 hr2.1 hr2.2) ?_
            refine am_reti dX7_now_80 rfl ?_
            exact ⟨hT, _, rfl, Or.inr (Or.inr ⟨hg.1, hg.2, Or.inl ⟨by omega, (q2.2.2.1.2.2.1 _ hr2.1 hr2.2).1⟩⟩)⟩
          refine am_case (1) (fun c_45_1 => ?_) (fun c_45_1 => ?_)
          · refine am_look (pc' := 81) (off := 36) dX7_now_45 rfl rfl rfl ?_
            refine am_aload_n (pc' := 82) dX7_now_81 rfl rfl rfl ?_
            refine am_getRk (ki := 3) (pc' := 85) (k := 3) (ci := 6) rfl dX7_now_82 rfl fl_X7_31 (by first | assumption | exact ⟨by omega, by omega, rfl⟩) rfl (by assumption) (by omega) ?_
            refine am_iload_n (pc' := 86) dX7_now_85 rfl rfl rfl ?_
            refine am_callV0 (pc' := 89) (as := [_]) (ci := 0)  rfl dX7_now_86 rfl ok_X0_roundOf ml_X7_178 im_X0_roundOf se_X0_roundOf rfl (Nat.le_of_ble_eq_true rfl) rfl (Nat.le_of_ble_eq_true rfl) (by first | assumption | exact ⟨by omega, by omega, rfl⟩) (t_roundOf q2 hr2) (fun r_86 ρ_86 h_86 q_86 g_86 e_86 => ?_)
            obtain ⟨rfl, rfl, v, rfl, y1, y2⟩ := q_86
            refine am_reti dX7_now_89 rfl ?_
            exact ⟨hT, _, rfl, Or.inr (Or.inr ⟨hg.1, hg.2, Or.inr (Or.inl ⟨by omega, y2⟩)⟩)⟩
          refine am_look (pc' := 90) (off := 45) dX7_now_45 rfl (by simp [Op.lookupswitch.offset, Ne.symm, c_45_0, c_45_1]) rfl ?_
          refine am_aload_n (pc' := 91) dX7_now_90 rfl rfl rfl ?_
          refine am_getRk (ki := 3) (pc' := 94) (k := 3) (ci := 6) rfl dX7_now_91 rfl fl_X7_31 (by first | assumption | exact ⟨by omega, by omega, rfl⟩) rfl (by assumption) (by omega) ?_
          refine am_iload_n (pc' := 95) dX7_now_94 rfl rfl rfl ?_
          refine am_callVp (pc' := 98) (as := [_]) (ci := 0)  rfl dX7_now_95 rfl ok_X0_goesOut ml_X7_181 im_X0_goesOut se_X0_goesOut rfl (Nat.le_of_ble_eq_true rfl) rfl (Nat.le_of_ble_eq_true rfl) (by first | assumption | exact ⟨by omega, by omega, rfl⟩) (t_goesOut hD hN.2.2.1 hr2.1 hr2.2) ?_
          refine am_if_eq (pc' := 101) (tgt := 105) dX7_now_98 rfl rfl (fun c_98 => ?_) (fun c_98 => ?_)
          · simp only [am_z0, am_z1, ne_eq] at c_98
            refine am_iconst (pc' := 106) dX7_now_105 rfl rfl ?_
            refine am_reti dX7_now_106 rfl ?_
            have hgo := gr_out_rt (nxt_0 (P := h 11 1) (kd := h 12) q2.2.2.2.2.1) (q2.2.2.1.2.2.1 _ hr2.1 hr2.2).2
            first | exact ⟨hT, _, rfl, Or.inr (Or.inr ⟨hg.1, hg.2, Or.inr (Or.inr ⟨by omega, by omega, Or.inl ⟨rfl, hgo.mpr c_98⟩⟩)⟩)⟩ | exact ⟨hT, _, rfl, Or.inr (Or.inr ⟨hg.1, hg.2, Or.inr (Or.inr ⟨by omega, by omega, Or.inr ⟨rfl, fun z => c_98 (hgo.mp z)⟩⟩)⟩)⟩ | fail
          · simp only [am_z0, am_z1, ne_eq] at c_98
            refine am_iconst (pc' := 102) dX7_now_101 rfl rfl ?_
            refine am_goto (pc' := 106) dX7_now_102 rfl ?_
            refine am_reti dX7_now_106 rfl ?_
            have hgo := gr_out_rt (nxt_0 (P := h 11 1) (kd := h 12) q2.2.2.2.2.1) (q2.2.2.1.2.2.1 _ hr2.1 hr2.2).2
            first | exact ⟨hT, _, rfl, Or.inr (Or.inr ⟨hg.1, hg.2, Or.inr (Or.inr ⟨by omega, by omega, Or.inl ⟨rfl, hgo.mpr c_98⟩⟩)⟩)⟩ | exact ⟨hT, _, rfl, Or.inr (Or.inr ⟨hg.1, hg.2, Or.inr (Or.inr ⟨by omega, by omega, Or.inr ⟨rfl, fun z => c_98 (hgo.mp z)⟩⟩)⟩)⟩ | fail
        · simp only [am_z0, am_z1, ne_eq] at c_19
          exfalso; omega
      · exfalso; omega
  · have hT : cl_T ρ h L S K 0 0 ρ h := ⟨A, L, hI, fun _ _ _ => rfl, Or.inl ⟨rfl, rfl, rfl⟩⟩
    refine am_iload_n (pc' := 1) dX7_now_0 rfl rfl rfl ?_
    refine am_if_lt (pc' := 4) (tgt := 9) dX7_now_1 rfl rfl (fun c_1 => ?_) (fun c_1 => ?_)
    · refine am_bipush (pc' := 11) dX7_now_9 rfl rfl (by decide) ?_
      refine am_reti dX7_now_11 rfl ?_
      exact ⟨hT, _, rfl, Or.inl ⟨by omega, rfl⟩⟩
    · refine am_iload_n (pc' := 5) dX7_now_4 rfl rfl rfl ?_
      refine am_iconst (pc' := 6) dX7_now_5 rfl rfl ?_
      refine am_icmp_le (pc' := 9) (tgt := 12) dX7_now_6 rfl rfl (fun c_6 => ?_) (fun c_6 => ?_)
      · refine am_aload_n (pc' := 13) dX7_now_12 rfl rfl rfl ?_
        refine am_getRk (ki := 1) (pc' := 16) (k := 1) (ci := 6) rfl dX7_now_13 rfl fl_X7_21 (by first | assumption | exact ⟨by omega, by omega, rfl⟩) rfl (by assumption) (by omega) ?_
        refine am_callVp (pc' := 19) (as := []) (ci := 3)  rfl dX7_now_16 rfl ok_X3_isNone ml_X7_115 im_X3_isNone se_X3_isNone rfl (Nat.le_of_ble_eq_true rfl) rfl (Nat.le_of_ble_eq_true rfl) (by first | assumption | exact ⟨by omega, by omega, rfl⟩) (t_isNone hR) ?_
        refine am_if_eq (pc' := 22) (tgt := 25) dX7_now_19 rfl rfl (fun c_19 => ?_) (fun c_19 => ?_)
        · simp only [am_z0, am_z1, ne_eq] at c_19
          exfalso; exact hg ⟨by omega, by omega⟩
        · simp only [am_z0, am_z1, ne_eq] at c_19
          refine am_bipush (pc' := 24) dX7_now_22 rfl rfl (by decide) ?_
          refine am_reti dX7_now_24 rfl ?_
          exact ⟨hT, _, rfl, Or.inr (Or.inl ⟨by omega, by omega, rfl⟩)⟩
      · refine am_bipush (pc' := 11) dX7_now_9 rfl rfl (by decide) ?_
        refine am_reti dX7_now_11 rfl ?_
        exact ⟨hT, _, rfl, Or.inl ⟨by omega, rfl⟩⟩
