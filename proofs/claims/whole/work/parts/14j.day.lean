/-! DifferRings: day -/
def o_ofDay (nx : Int → Int) (P B fw : Int) (F : Int → Int) (s o w v : Int) : Prop :=
  (w = 1 ∧ v = fw) ∨ (w ≠ 1 ∧ fw ≠ -9 ∧ v = -100 - fw) ∨ (w ≠ 1 ∧ fw = -9 ∧ ((w = 0 ∧ v = mt_sum F P.toNat) ∨ (w = 2 ∧ v = s) ∨ (w = 3 ∧ v = o) ∨ (w = 4 ∧ gr_tl nx (mt_cd B F P.toNat) v) ∨ (10 ≤ w ∧ v = if w - 10 < P then F (w - 10) else -9)))
theorem o_ofDay_eq {nx : Int → Int} {P B fw s o s' o' w v : Int} {F F' : Int → Int} (h9 : fw = -9 → mt_eq P F F' ∧ s = s' ∧ o = o') (h : o_ofDay nx P B fw F s o w v) : o_ofDay nx P B fw F' s' o' w v := by
  rcases h with h | h | ⟨h1, h2, h3⟩
  · exact Or.inl h
  · exact Or.inr (Or.inl h)
  · obtain ⟨e, rfl, rfl⟩ := h9 h2
    refine Or.inr (Or.inr ⟨h1, h2, ?_⟩)
    rcases h3 with ⟨a, b⟩ | h3 | h3 | ⟨a, b⟩ | ⟨a, b⟩
    · exact Or.inl ⟨a, by rw [b]; exact mt_sum_eq (fun p p0 p1 => e p p0 (by omega))⟩
    · exact Or.inr (Or.inl h3)
    · exact Or.inr (Or.inr (Or.inl h3))
    · exact Or.inr (Or.inr (Or.inr (Or.inl ⟨a, by rw [← mt_cd_eq (f := F) (g := F') (fun p p0 p1 => e p p0 (by omega))]; exact b⟩)))
    · refine Or.inr (Or.inr (Or.inr (Or.inr ⟨a, ?_⟩)))
      rw [b]
      split
      · exact e _ (by omega) (by omega)
      · rfl
theorem t_ofDay {ρ h : am_H} {A L S K w : Int} {mc ms : Nat} (hI : cl_I ρ h A L S K) (hP0 : h 11 1 ≠ 0) (eP : h 15 1 = h 11 1) (eB : h 15 0 = h 11 0) (hw : (0 ≤ w ∧ w ≤ 4) ∨ (10 ≤ w ∧ w ≤ 14)) (hfw : -9 ≤ h 37 0 ∧ h 37 0 ≤ 20) (hn : h 37 0 = -9 → mt_ok (h 11 1) (h 11 0) (h 17)) (hb : cl_b (w = 4 ∧ h 37 0 = -9) h L (mt_pw (h 11 0) (h 11 1).toNat) mc ms) :
    am_CT mX7_ofDay mc ms [am_R 1, am_I w] ρ h (fun r ρ' h' => cl_T ρ h L S K mc ms ρ' h' ∧ ∃ v, r = some (am_I v) ∧ o_ofDay (o_nx h) (h 11 1) (h 11 0) (h 37 0) (h 17) (h 37 1) (h 37 2) w v) := by
  have hC := hI.2.1.1
  have hn58 := hC.1
  have hR := am_RA11 hC
  have hR15 := am_RA15 hC
  have e1 := am_lc hC 1 1 11 (by decide)
  have e2 := am_lc hC 1 3 19 (by decide)
  have e3 := am_lc hC 1 2 15 (by decide)
  have e4 := am_lc hC 1 6 37 (by decide)
  have e5 := am_lc hC 15 3 17 (by decide)
  have e6 := am_lc hC 17 (-1) 5 (by decide)
  have k0 : am_in ρ 19 0 := ⟨by omega, by omega, rfl⟩
  obtain ⟨⟨o1, o2, o3, o4, o5⟩, _⟩ := cl_RO hI.1.1 hP0
  have hRO : h 37 0 = -9 → am_RO h 15 := fun z => ⟨by omega, by omega, by omega, by omega, by rw [eP, eB]; exact hn z⟩
  refine am_ct (ls := [some (am_R 1), some (am_I w)]) ok_X7_ofDay rfl (fun _ => Nat.le_of_ble_eq_true rfl) (fun _ => rfl) (by intro v hv; simpa using hv) ?_
  rcases hb with ⟨hg, hb⟩ | ⟨hg, rfl, rfl⟩
  · have hO3 := hRO hg.2
    refine am_iload_n (pc' := 1) dX7_ofDay_0 rfl rfl rfl ?_
    refine am_iconst (pc' := 2) dX7_ofDay_1 rfl rfl ?_
    refine am_icmp_ne (pc' := 5) (tgt := 13) dX7_ofDay_2 rfl rfl (fun c_2 => ?_) (fun c_2 => ?_)
    · refine am_aload_n (pc' := 14) dX7_ofDay_13 rfl rfl rfl ?_
      refine am_getRk (ki := 6) (pc' := 17) (k := 6) (ci := 6) rfl dX7_ofDay_14 rfl fl_X7_52 (by first | assumption | exact ⟨by omega, by omega, rfl⟩) rfl (by assumption) (by omega) ?_
      refine am_getIk (ki := 0) (pc' := 20) (k := 0) (ci := 1) rfl dX7_ofDay_17 rfl fl_X7_160 (by first | assumption | exact ⟨by omega, by omega, rfl⟩) rfl ?_
      refine am_bipush (pc' := 22) dX7_ofDay_20 rfl rfl (by decide) ?_
      refine am_icmp_eq (pc' := 25) (tgt := 36) dX7_ofDay_22 rfl rfl (fun c_22 => ?_) (fun c_22 => ?_)
      · refine am_iload_n (pc' := 37) dX7_ofDay_36 rfl rfl rfl ?_
        refine am_case (0) (fun c_37_0 => ?_) (fun c_37_0 => ?_)
        · refine am_tabIn (pc' := 72) (off := 35) dX7_ofDay_37 (by decide) (by decide) rfl rfl ?_
          exfalso; omega
        refine am_case (1) (fun c_37_1 => ?_) (fun c_37_1 => ?_)
        · refine am_tabIn (pc' := 122) (off := 85) dX7_ofDay_37 (by decide) (by decide) rfl rfl ?_
          exfalso; omega
        refine am_case (2) (fun c_37_2 => ?_) (fun c_37_2 => ?_)
        · refine am_tabIn (pc' := 80) (off := 43) dX7_ofDay_37 (by decide) (by decide) rfl rfl ?_
          exfalso; omega
        refine am_case (3) (fun c_37_3 => ?_) (fun c_37_3 => ?_)
        · refine am_tabIn (pc' := 88) (off := 51) dX7_ofDay_37 (by decide) (by decide) rfl rfl ?_
          exfalso; omega
        refine am_case (4) (fun c_37_4 => ?_) (fun c_37_4 => ?_)
        · refine am_tabIn (pc' := 96) (off := 59) dX7_ofDay_37 (by decide) (by decide) rfl rfl ?_
          refine am_aload_n (pc' := 97) dX7_ofDay_96 rfl rfl rfl ?_
          refine am_getRk (ki := 3) (pc' := 100) (k := 3) (ci := 6) rfl dX7_ofDay_97 rfl fl_X7_31 (by first | assumption | exact ⟨by omega, by omega, rfl⟩) rfl (by assumption) (by omega) ?_
          refine am_aload_n (pc' := 101) dX7_ofDay_100 rfl rfl rfl ?_
          refine am_getRk (ki := 1) (pc' := 104) (k := 1) (ci := 6) rfl dX7_ofDay_101 rfl fl_X7_21 (by first | assumption | exact ⟨by omega, by omega, rfl⟩) rfl (by assumption) (by omega) ?_
          refine am_callVg (pc' := 107) (as := [_]) (ci := 0) (mc := mc) (bc := 0) (ms := ms) (bs := 0) rfl dX7_ofDay_104 rfl ok_X0_workOut ml_X7_128 im_X0_workOut se_X0_workOut rfl (Nat.le_of_ble_eq_true rfl) rfl (Nat.le_of_ble_eq_true rfl) (by first | assumption | exact ⟨by omega, by omega, rfl⟩) (t_wo hI hP0 hb) (fun r_104 ρ_104 h_104 q_104 g_104 e_104 => ?_)
          obtain ⟨rfl, A', L', q1, q2, q3, q4, q5⟩ := q_104
          have hC2 := q2.1
          have n2 := hC2.1
          have x2 := am_lc hC2 1 3 19 (by decide)
          have x3 := am_lc hC2 1 2 15 (by decide)
          have w15 : h_104 15 1 = h 11 1 := (q3 15 1 (by omega)).trans eP
          have w150 : h_104 15 0 = h 11 0 := (q3 15 0 (by omega)).trans eB
          have w17 : h_104 (15 + 2) = h 17 := funext fun p => q3 17 p (by omega)
          have hO4 : am_RO h_104 15 := ⟨by omega, by omega, by omega, by omega, by rw [w17, w15, w150]; exact hn hg.2⟩
          have hN := ar_QN q2
          have hT : cl_T ρ h L S K mc ms ρ_104 h_104 := ⟨A', L', q1, fun x j z => q3 x j (by omega), q5⟩
          have er : mt_cd (h_104 15 0) (h_104 (15 + 2)) (h_104 15 1).toNat = mt_cd (h 11 0) (h 17) (h 11 1).toNat := by rw [w15, w150, w17]
          have b2 : 0 ≤ mt_cd (h 11 0) (h 17) (h 11 1).toNat ∧ mt_cd (h 11 0) (h 17) (h 11 1).toNat < h_104 19 7 := by
            rw [q4]; exact mt_cd_in o3 (fun p p0 p1 => hn hg.2 p p0 (by omega))
          refine am_aload_n (pc' := 108) dX7_ofDay_107 rfl rfl rfl ?_
          refine am_getRk (ki := 3) (pc' := 111) (k := 3) (ci := 6) rfl dX7_ofDay_108 rfl fl_X7_31 (by first | assumption | exact ⟨by omega, by omega, rfl⟩) rfl (by assumption) (by omega) ?_
          refine am_aload_n (pc' := 112) dX7_ofDay_111 rfl rfl rfl ?_
          refine am_getRk (ki := 2) (pc' := 115) (k := 2) (ci := 6) rfl dX7_ofDay_112 rfl fl_X7_25 (by first | assumption | exact ⟨by omega, by omega, rfl⟩) rfl (by assumption) (by omega) ?_
          refine am_callVp (pc' := 118) (as := []) (ci := 3)  rfl dX7_ofDay_115 rfl ok_X3_code ml_X7_132 im_X3_code se_X3_code rfl (Nat.le_of_ble_eq_true rfl) rfl (Nat.le_of_ble_eq_true rfl) (by first | assumption | exact ⟨by omega, by omega, rfl⟩) (t_code (am_RA15 hC2) hO4) ?_
          rw [er]
          refine am_callVp (pc' := 121) (as := [_]) (ci := 0)  rfl dX7_ofDay_118 rfl ok_X0_tailOf ml_X7_172 im_X0_tailOf se_X0_tailOf rfl (Nat.le_of_ble_eq_true rfl) rfl (Nat.le_of_ble_eq_true rfl) (by first | assumption | exact ⟨by omega, by omega, rfl⟩) (t_tailOf q2.2.1 hN.2.2.1 b2.1 b2.2) ?_
          refine am_reti dX7_ofDay_121 rfl ?_
          exact ⟨hT, _, rfl, Or.inr (Or.inr ⟨by omega, hg.2, Or.inr (Or.inr (Or.inr (Or.inl ⟨hg.1, (q2.2.2.1.2.2.1 _ b2.1 b2.2).1⟩)))⟩)⟩
        refine am_tabOut (pc' := 122) dX7_ofDay_37 rfl (by omega) ?_
        exfalso; omega
      · exfalso; omega
    · exfalso; omega
  · have hT : cl_T ρ h L S K 0 0 ρ h := ⟨A, L, hI, fun _ _ _ => rfl, Or.inl ⟨rfl, rfl, rfl⟩⟩
    refine am_iload_n (pc' := 1) dX7_ofDay_0 rfl rfl rfl ?_
    refine am_iconst (pc' := 2) dX7_ofDay_1 rfl rfl ?_
    refine am_icmp_ne (pc' := 5) (tgt := 13) dX7_ofDay_2 rfl rfl (fun c_2 => ?_) (fun c_2 => ?_)
    · refine am_aload_n (pc' := 14) dX7_ofDay_13 rfl rfl rfl ?_
      refine am_getRk (ki := 6) (pc' := 17) (k := 6) (ci := 6) rfl dX7_ofDay_14 rfl fl_X7_52 (by first | assumption | exact ⟨by omega, by omega, rfl⟩) rfl (by assumption) (by omega) ?_
      refine am_getIk (ki := 0) (pc' := 20) (k := 0) (ci := 1) rfl dX7_ofDay_17 rfl fl_X7_160 (by first | assumption | exact ⟨by omega, by omega, rfl⟩) rfl ?_
      refine am_bipush (pc' := 22) dX7_ofDay_20 rfl rfl (by decide) ?_
      refine am_icmp_eq (pc' := 25) (tgt := 36) dX7_ofDay_22 rfl rfl (fun c_22 => ?_) (fun c_22 => ?_)
      · refine am_iload_n (pc' := 37) dX7_ofDay_36 rfl rfl rfl ?_
        refine am_case (0) (fun c_37_0 => ?_) (fun c_37_0 => ?_)
        · refine am_tabIn (pc' := 72) (off := 35) dX7_ofDay_37 (by decide) (by decide) rfl rfl ?_
          refine am_aload_n (pc' := 73) dX7_ofDay_72 rfl rfl rfl ?_
          refine am_getRk (ki := 2) (pc' := 76) (k := 2) (ci := 6) rfl dX7_ofDay_73 rfl fl_X7_25 (by first | assumption | exact ⟨by omega, by omega, rfl⟩) rfl (by assumption) (by omega) ?_
          refine am_callVp (pc' := 79) (as := []) (ci := 3)  rfl dX7_ofDay_76 rfl ok_X3_total ml_X7_163 im_X3_total se_X3_total rfl (Nat.le_of_ble_eq_true rfl) rfl (Nat.le_of_ble_eq_true rfl) (by first | assumption | exact ⟨by omega, by omega, rfl⟩) (t_total hR15 (hRO (by omega))) ?_
          refine am_reti dX7_ofDay_79 rfl ?_
          exact ⟨hT, _, rfl, Or.inr (Or.inr ⟨by omega, by omega, Or.inl ⟨by omega, by rw [eP]; rfl⟩⟩)⟩
        refine am_case (1) (fun c_37_1 => ?_) (fun c_37_1 => ?_)
        · refine am_tabIn (pc' := 122) (off := 85) dX7_ofDay_37 (by decide) (by decide) rfl rfl ?_
          refine am_aload_n (pc' := 123) dX7_ofDay_122 rfl rfl rfl ?_
          refine am_getRk (ki := 2) (pc' := 126) (k := 2) (ci := 6) rfl dX7_ofDay_123 rfl fl_X7_25 (by first | assumption | exact ⟨by omega, by omega, rfl⟩) rfl (by assumption) (by omega) ?_
          refine am_iload_n (pc' := 127) dX7_ofDay_126 rfl rfl rfl ?_
          refine am_bipush (pc' := 129) dX7_ofDay_127 rfl rfl (by decide) ?_
          refine am_isub (pc' := 130) dX7_ofDay_129 rfl ⟨by omega, by omega⟩ ?_
          refine am_callVp (pc' := 133) (as := [_]) (ci := 3)  rfl dX7_ofDay_130 rfl ok_X3_numberAt ml_X7_175 im_X3_numberAt se_X3_numberAt rfl (Nat.le_of_ble_eq_true rfl) rfl (Nat.le_of_ble_eq_true rfl) (by first | assumption | exact ⟨by omega, by omega, rfl⟩) (t_numberAt hR15 (by omega)) ?_
          refine am_reti dX7_ofDay_133 rfl ?_
          first | (exfalso; omega) | exact ⟨hT, _, rfl, Or.inr (Or.inr ⟨by omega, by omega, Or.inr (Or.inr (Or.inr (Or.inr ⟨by omega, by rw [eP]; split <;> split <;> first | rfl | (exfalso; omega)⟩)))⟩)⟩
        refine am_case (2) (fun c_37_2 => ?_) (fun c_37_2 => ?_)
        · refine am_tabIn (pc' := 80) (off := 43) dX7_ofDay_37 (by decide) (by decide) rfl rfl ?_
          refine am_aload_n (pc' := 81) dX7_ofDay_80 rfl rfl rfl ?_
          refine am_getRk (ki := 6) (pc' := 84) (k := 6) (ci := 6) rfl dX7_ofDay_81 rfl fl_X7_52 (by first | assumption | exact ⟨by omega, by omega, rfl⟩) rfl (by assumption) (by omega) ?_
          refine am_getIk (ki := 1) (pc' := 87) (k := 1) (ci := 1) rfl dX7_ofDay_84 rfl fl_X7_166 (by first | assumption | exact ⟨by omega, by omega, rfl⟩) rfl ?_
          refine am_reti dX7_ofDay_87 rfl ?_
          exact ⟨hT, _, rfl, Or.inr (Or.inr ⟨by omega, by omega, Or.inr (Or.inl ⟨by omega, rfl⟩)⟩)⟩
        refine am_case (3) (fun c_37_3 => ?_) (fun c_37_3 => ?_)
        · refine am_tabIn (pc' := 88) (off := 51) dX7_ofDay_37 (by decide) (by decide) rfl rfl ?_
          refine am_aload_n (pc' := 89) dX7_ofDay_88 rfl rfl rfl ?_
          refine am_getRk (ki := 6) (pc' := 92) (k := 6) (ci := 6) rfl dX7_ofDay_89 rfl fl_X7_52 (by first | assumption | exact ⟨by omega, by omega, rfl⟩) rfl (by assumption) (by omega) ?_
          refine am_getIk (ki := 2) (pc' := 95) (k := 2) (ci := 1) rfl dX7_ofDay_92 rfl fl_X7_169 (by first | assumption | exact ⟨by omega, by omega, rfl⟩) rfl ?_
          refine am_reti dX7_ofDay_95 rfl ?_
          exact ⟨hT, _, rfl, Or.inr (Or.inr ⟨by omega, by omega, Or.inr (Or.inr (Or.inl ⟨by omega, rfl⟩))⟩)⟩
        refine am_case (4) (fun c_37_4 => ?_) (fun c_37_4 => ?_)
        · refine am_tabIn (pc' := 96) (off := 59) dX7_ofDay_37 (by decide) (by decide) rfl rfl ?_
          exfalso; exact hg ⟨by omega, by omega⟩
        refine am_tabOut (pc' := 122) dX7_ofDay_37 rfl (by omega) ?_
        refine am_aload_n (pc' := 123) dX7_ofDay_122 rfl rfl rfl ?_
        refine am_getRk (ki := 2) (pc' := 126) (k := 2) (ci := 6) rfl dX7_ofDay_123 rfl fl_X7_25 (by first | assumption | exact ⟨by omega, by omega, rfl⟩) rfl (by assumption) (by omega) ?_
        refine am_iload_n (pc' := 127) dX7_ofDay_126 rfl rfl rfl ?_
        refine am_bipush (pc' := 129) dX7_ofDay_127 rfl rfl (by decide) ?_
        refine am_isub (pc' := 130) dX7_ofDay_129 rfl ⟨by omega, by omega⟩ ?_
        refine am_callVp (pc' := 133) (as := [_]) (ci := 3)  rfl dX7_ofDay_130 rfl ok_X3_numberAt ml_X7_175 im_X3_numberAt se_X3_numberAt rfl (Nat.le_of_ble_eq_true rfl) rfl (Nat.le_of_ble_eq_true rfl) (by first | assumption | exact ⟨by omega, by omega, rfl⟩) (t_numberAt hR15 (by omega)) ?_
        refine am_reti dX7_ofDay_133 rfl ?_
        first | (exfalso; omega) | exact ⟨hT, _, rfl, Or.inr (Or.inr ⟨by omega, by omega, Or.inr (Or.inr (Or.inr (Or.inr ⟨by omega, by rw [eP]; split <;> split <;> first | rfl | (exfalso; omega)⟩)))⟩)⟩
      · refine am_bipush (pc' := 27) dX7_ofDay_25 rfl rfl (by decide) ?_
        refine am_aload_n (pc' := 28) dX7_ofDay_27 rfl rfl rfl ?_
        refine am_getRk (ki := 6) (pc' := 31) (k := 6) (ci := 6) rfl dX7_ofDay_28 rfl fl_X7_52 (by first | assumption | exact ⟨by omega, by omega, rfl⟩) rfl (by assumption) (by omega) ?_
        refine am_getIk (ki := 0) (pc' := 34) (k := 0) (ci := 1) rfl dX7_ofDay_31 rfl fl_X7_160 (by first | assumption | exact ⟨by omega, by omega, rfl⟩) rfl ?_
        refine am_isub (pc' := 35) dX7_ofDay_34 rfl ⟨by omega, by omega⟩ ?_
        refine am_reti dX7_ofDay_35 rfl ?_
        exact ⟨hT, _, rfl, Or.inr (Or.inl ⟨by omega, by omega, rfl⟩)⟩
    · refine am_aload_n (pc' := 6) dX7_ofDay_5 rfl rfl rfl ?_
      refine am_getRk (ki := 6) (pc' := 9) (k := 6) (ci := 6) rfl dX7_ofDay_6 rfl fl_X7_52 (by first | assumption | exact ⟨by omega, by omega, rfl⟩) rfl (by assumption) (by omega) ?_
      refine am_getIk (ki := 0) (pc' := 12) (k := 0) (ci := 1) rfl dX7_ofDay_9 rfl fl_X7_160 (by first | assumption | exact ⟨by omega, by omega, rfl⟩) rfl ?_
      refine am_reti dX7_ofDay_12 rfl ?_
      exact ⟨hT, _, rfl, Or.inl ⟨by omega, rfl⟩⟩
