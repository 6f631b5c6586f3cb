/-! the model: a day done -/
theorem t8_dayOf_w {ρ h h1 : am_H} {b n w fw x : Int} {F : Int → Int} {s o : Int} {Q : am_Q} (hM : am_LM ρ) (hR : md_R h) (h0 : h 38 1 ≠ 0) (hd : md_df h h1) (hw : o_dw w) (hfw : 0 ≤ fw ∧ fw ≤ 20) (hq : ∀ v h2, md_dfr h h2 → o_ofDay (md_nx h) (h 38 1) (h 38 2) fw F s o w v → Q (some (am_I v)) ρ h2) :
    am_WP mX8_dayOf 0 0 17 [some (am_R 38), some (am_I b), some (am_I n), some (am_I w), some (am_I fw), some (am_I x)] [] ρ h1 Q := by
  refine am_iload (pc' := 19) dX8_dayOf_17 rfl rfl ?_
  refine am_iload_n (pc' := 20) dX8_dayOf_19 rfl rfl rfl ?_
  refine am_icmp_ge (pc' := 23) (tgt := 99) dX8_dayOf_20 rfl rfl (fun c_20 => ?_) (fun c_20 => ?_)
  · exact t8_dayOf_99 hM hR h0 hd hw (Or.inr hfw) (fun z => by omega) hq
  · refine am_iload (pc' := 25) dX8_dayOf_23 rfl rfl ?_
    refine am_if_ge (pc' := 28) (tgt := 99) dX8_dayOf_25 rfl rfl (fun c_25 => ?_) (fun c_25 => ?_)
    · exact t8_dayOf_99 hM hR h0 hd hw (Or.inr hfw) (fun z => by omega) hq
    · exfalso; omega
theorem t8_dayOf_l {ρ h : am_H} {b n w : Int} {c : Int → Int} {Q : am_Q} (hM : am_LM ρ) (hR : md_R h) (h0 : h 38 1 ≠ 0) (hb : 0 ≤ b ∧ b + 2 * n ≤ 240 ∧ 0 ≤ n ∧ n ≤ 20) (hc : ∀ t, 0 ≤ t → t < 2 * n → h 56 (b + t) = c t) (hac : dy_acts c n) (hw : o_dw w)
    (hq : ∀ v h2 fw, md_dfr h h2 → dy_fw (h 38 1) (h 38 2) c n fw → o_ofDay (md_nx h) (h 38 1) (h 38 2) fw (dy_f (h 38 1) (h 38 2) (h 39) c (h 40) n.toNat) (dy_s c n.toNat) (dy_o (h 38 1) (h 38 2) (h 39) c (h 40) n.toNat) w v → Q (some (am_I v)) ρ h2) :
    ∀ (m : Nat) (x : Int) (h1 : am_H), (n - x).toNat < m → 0 ≤ x → x ≤ n → md_df h h1 → dy_all (h 38 1) (h 38 2) c x → mt_eq (h 38 1) (h1 40) (dy_f (h 38 1) (h 38 2) (h 39) c (h 40) x.toNat) → h1 38 21 = dy_s c x.toNat → h1 38 20 = dy_o (h 38 1) (h 38 2) (h 39) c (h 40) x.toNat → am_WP mX8_dayOf 0 0 17 [some (am_R 38), some (am_I b), some (am_I n), some (am_I w), some (am_I (-9)), some (am_I x)] [] ρ h1 Q := by
  have hn58 := hM.1
  obtain ⟨hA, hnm, hkd⟩ := md_RA hR h0
  obtain ⟨a1, a2⟩ := id hA
  have e3 := am_lm hM 38 29 56 (by decide)
  have l3 := am_lm hM 56 (-1) 240 (by decide)
  intro m
  induction m with
  | zero => intro x h1 hm; omega
  | succ m ih =>
    intro x h1 hm x0 xn hd hall h40 h21 h20
    have g1 : h1 38 1 = h 38 1 := hd.2 1 (by decide) (by decide)
    have g2 : h1 38 2 = h 38 2 := hd.2 2 (by decide) (by decide)
    have g3 : h1 39 = h 39 := funext fun k => hd.1 39 k (by simp <;> omega)
    have hA1 : md_A h1 := by unfold md_A; rw [g1, g2]; exact hA
    have hF := dy_f_inA (kd := h 39) a1.1 hnm hall x.toNat (by omega)
    have hn1 : mt_ok (h1 38 1) (h1 38 2) (h1 40) := fun p p0 p1 => by
      rw [g1] at p1
      rw [h40 p p0 p1, g2]
      exact hF p p0 p1
    have hR1 : md_R h1 := Or.inr ⟨hA1, hn1, by rw [g1, g3]; exact hkd⟩
    have hc0 : x < n → h1 56 (b + 2 * x) = c (2 * x) := fun z => by rw [hd.1 56 _ (by simp <;> omega)]; exact hc _ (by omega) (by omega)
    have hc1 : x < n → h1 56 (b + 2 * x + 1) = c (2 * x + 1) := fun z => by rw [hd.1 56 _ (by simp <;> omega), Int.add_assoc]; exact hc _ (by omega) (by omega)
    have hsb := dy_s_in (c := c) (n := x.toNat) (fun q z0 z1 => hac q z0 (by omega))
    have hob := dy_o_in (P := h 38 1) (B := h 38 2) (kd := h 39) (c := c) (f := h 40) x.toNat
    have K68 : ∀ wr h2, x < n → md_df h h2 → 0 ≤ h2 38 20 ∧ h2 38 20 ≤ 100 → (∀ d, d = (if mt_sum (fun q => if h2 40 q = 0 then 1 else 0) (h 38 1).toNat = h 38 1 then 1 else 0) → am_WP mX8_dayOf 0 0 17 [some (am_R 38), some (am_I b), some (am_I n), some (am_I w), some (am_I wr), some (am_I (x + 1))] [] ρ (am_u h2 38 20 (h2 38 20 + d)) Q) → am_WP mX8_dayOf 0 0 68 [some (am_R 38), some (am_I b), some (am_I n), some (am_I w), some (am_I wr), some (am_I x)] [] ρ h2 Q := by
      intro wr h2 hx hd2 hb2 k
      have p1 : h2 38 1 = h 38 1 := hd2.2 1 (by decide) (by decide)
      refine am_aload_n (pc' := 69) dX8_dayOf_68 rfl rfl rfl ?_
      first | refine am_dupR (pc' := 70) dX8_dayOf_69 rfl ?_ | refine am_dupI (pc' := 70) dX8_dayOf_69 rfl ?_
      refine am_getIk (ki := 20) (pc' := 73) (k := 20) (ci := 7) rfl dX8_dayOf_70 rfl fl_X8_206 (by first | assumption | exact ⟨by omega, by omega, rfl⟩) rfl ?_
      refine am_aload_n (pc' := 74) dX8_dayOf_73 rfl rfl rfl ?_
      refine am_callVp (pc' := 77) (as := []) (ci := 7)  rfl dX8_dayOf_74 rfl ok_X8_zeros ml_X8_164 im_X8_zeros se_X8_zeros rfl (Nat.le_of_ble_eq_true rfl) rfl (Nat.le_of_ble_eq_true rfl) (by first | assumption | exact ⟨by omega, by omega, rfl⟩) (t8_zeros hM (by rw [p1]; omega)) ?_
      refine am_aload_n (pc' := 78) dX8_dayOf_77 rfl rfl rfl ?_
      refine am_getIk (ki := 1) (pc' := 81) (k := 1) (ci := 7) rfl dX8_dayOf_78 rfl fl_X8_77 (by first | assumption | exact ⟨by omega, by omega, rfl⟩) rfl ?_
      rw [p1]
      refine am_icmp_ne (pc' := 84) (tgt := 88) dX8_dayOf_81 rfl rfl (fun c_81 => ?_) (fun c_81 => ?_)
      · refine am_iconst (pc' := 89) dX8_dayOf_88 rfl rfl ?_
        refine am_iadd (pc' := 90) dX8_dayOf_89 rfl ⟨by omega, by omega⟩ ?_
        refine am_putIk (ki := 20) (pc' := 93) (k := 20) (ci := 7) rfl dX8_dayOf_90 rfl fl_X8_206 (by first | assumption | exact ⟨by omega, by omega, rfl⟩) rfl (fun _ _ _ e => by cases e; rfl) ?_
        refine am_iinc (pc' := 96) (ls' := [_, _, _, _, _, _]) dX8_dayOf_93 rfl rfl ⟨by omega, by omega⟩ (Nat.le_of_ble_eq_true rfl) rfl rfl ?_
        refine am_goto (pc' := 17) dX8_dayOf_96 rfl ?_
        first | exact k 0 (by rw [if_neg c_81]) | exact k 1 (by rw [if_pos c_81]) | fail
      · refine am_iconst (pc' := 85) dX8_dayOf_84 rfl rfl ?_
        refine am_goto (pc' := 89) dX8_dayOf_85 rfl ?_
        refine am_iadd (pc' := 90) dX8_dayOf_89 rfl ⟨by omega, by omega⟩ ?_
        refine am_putIk (ki := 20) (pc' := 93) (k := 20) (ci := 7) rfl dX8_dayOf_90 rfl fl_X8_206 (by first | assumption | exact ⟨by omega, by omega, rfl⟩) rfl (fun _ _ _ e => by cases e; rfl) ?_
        refine am_iinc (pc' := 96) (ls' := [_, _, _, _, _, _]) dX8_dayOf_93 rfl rfl ⟨by omega, by omega⟩ (Nat.le_of_ble_eq_true rfl) rfl rfl ?_
        refine am_goto (pc' := 17) dX8_dayOf_96 rfl ?_
        first | exact k 0 (by rw [if_neg c_81]) | exact k 1 (by rw [if_pos c_81]) | fail
    refine am_iload (pc' := 19) dX8_dayOf_17 rfl rfl ?_
    refine am_iload_n (pc' := 20) dX8_dayOf_19 rfl rfl rfl ?_
    refine am_icmp_ge (pc' := 23) (tgt := 99) dX8_dayOf_20 rfl rfl (fun c_20 => ?_) (fun c_20 => ?_)
    · have e9 : x = n := by omega
      subst e9
      exact t8_dayOf_99 hM hR h0 hd hw (Or.inl rfl) (fun _ => ⟨h40, hF, h21, h20⟩) (fun v h2 y1 y2 => hq v h2 (-9) y1 (Or.inr ⟨rfl, hall⟩) y2)
    · refine am_iload (pc' := 25) dX8_dayOf_23 rfl rfl ?_
      refine am_if_ge (pc' := 28) (tgt := 99) dX8_dayOf_25 rfl rfl (fun c_25 => ?_) (fun c_25 => ?_)
      · exact absurd c_25 (by decide)
      · refine am_aload_n (pc' := 29) dX8_dayOf_28 rfl rfl rfl ?_
        refine am_aload_n (pc' := 30) dX8_dayOf_29 rfl rfl rfl ?_
        refine am_getRk (ki := 29) (pc' := 33) (k := 29) (ci := 7) rfl dX8_dayOf_30 rfl fl_X8_61 (by first | assumption | exact ⟨by omega, by omega, rfl⟩) rfl (by assumption) (by omega) ?_
        refine am_iload_n (pc' := 34) dX8_dayOf_33 rfl rfl rfl ?_
        refine am_iconst (pc' := 35) dX8_dayOf_34 rfl rfl ?_
        refine am_iload (pc' := 37) dX8_dayOf_35 rfl rfl ?_
        refine am_imul (pc' := 38) dX8_dayOf_37 rfl ⟨by omega, by omega⟩ ?_
        refine am_iadd (pc' := 39) dX8_dayOf_38 rfl ⟨by omega, by omega⟩ ?_
        refine am_iaload (pc' := 40) dX8_dayOf_39 rfl (by first | assumption | exact ⟨by omega, by omega, rfl⟩) (by omega) (by omega) ?_
        refine am_aload_n (pc' := 41) dX8_dayOf_40 rfl rfl rfl ?_
        refine am_getRk (ki := 29) (pc' := 44) (k := 29) (ci := 7) rfl dX8_dayOf_41 rfl fl_X8_61 (by first | assumption | exact ⟨by omega, by omega, rfl⟩) rfl (by assumption) (by omega) ?_
        refine am_iload_n (pc' := 45) dX8_dayOf_44 rfl rfl rfl ?_
        refine am_iconst (pc' := 46) dX8_dayOf_45 rfl rfl ?_
        refine am_iload (pc' := 48) dX8_dayOf_46 rfl rfl ?_
        refine am_imul (pc' := 49) dX8_dayOf_48 rfl ⟨by omega, by omega⟩ ?_
        refine am_iadd (pc' := 50) dX8_dayOf_49 rfl ⟨by omega, by omega⟩ ?_
        refine am_iconst (pc' := 51) dX8_dayOf_50 rfl rfl ?_
        refine am_iadd (pc' := 52) dX8_dayOf_51 rfl ⟨by omega, by omega⟩ ?_
        refine am_iaload (pc' := 53) dX8_dayOf_52 rfl (by first | assumption | exact ⟨by omega, by omega, rfl⟩) (by omega) (by omega) ?_
        rw [hc0 (by omega), hc1 (by omega)]
        refine am_callV0 (pc' := 56) (as := [_, _]) (ci := 7)  rfl dX8_dayOf_53 rfl ok_X8_doesPair ml_X8_209 im_X8_doesPair se_X8_doesPair rfl (Nat.le_of_ble_eq_true rfl) rfl (Nat.le_of_ble_eq_true rfl) (by first | assumption | exact ⟨by omega, by omega, rfl⟩) (t8_doesPair hM hR1 (by rw [g1]; exact h0) (hac x x0 (by omega)) (by rw [h21]; omega)) (fun r_53 ρ_53 h_53 q_53 g_53 e_53 => ?_)
        obtain ⟨rfl, d1, d2, d3⟩ := q_53
        rw [g1, g2, g3] at d3
        have dd := md_df_t hd d1
        rcases d3 with ⟨can, rfl, e40, e21⟩ | ⟨can, rfl⟩
        · refine am_if_eq (pc' := 59) (tgt := 64) dX8_dayOf_56 rfl rfl (fun z => absurd z (by decide)) (fun _ => ?_)
          have f40 : mt_eq (h 38 1) (h_53 40) (dy_f (h 38 1) (h 38 2) (h 39) c (h 40) (x + 1).toNat) := fun p p0 p1 => by
            rw [e40 p p0 p1, dy_f_next x0]
            split
            · exact mt_it_eq a1.1 (fun _ _ _ => rfl) h40 _ p p0 p1
            · unfold mt_up
              split
              · rfl
              · exact h40 p p0 p1
          have f21 : h_53 38 21 = dy_s c (x + 1).toNat := by
            unfold dy_s
            rw [mt_sum_next _ x0, e21, h21]
            rfl
          refine am_bipush (pc' := 61) dX8_dayOf_59 rfl rfl (by decide) ?_
          refine am_goto (pc' := 66) dX8_dayOf_61 rfl ?_
          refine am_istore (pc' := 68) (ls' := [_, _, _, _, _, _]) dX8_dayOf_66 rfl (Nat.le_of_ble_eq_true rfl) rfl rfl ?_
          first | exact K68 _ _ (by omega) dd (by rw [d2, h20]; omega) (fun d hd9 => ih _ _ (by omega) (by omega) (by omega) (md_df_s dd (by omega)) (am_upto hall can) (fun p p0 p1 => by rw [am_u_n (by omega)]; exact f40 p p0 p1) (by rw [am_u_n (by omega)]; exact f21) (by rw [am_u_s, d2, h20, hd9, dy_o_next x0, mt_sum_z_eq (by omega) f40])) | exact K68 _ _ (by omega) dd (by rw [d2, h20]; omega) (fun d hd9 => t8_dayOf_w hM hR h0 (md_df_s dd (by omega)) hw (by omega) (fun v h2 y1 y2 => hq v h2 x y1 (Or.inl ⟨x0, by omega, can, hall⟩) y2)) | fail
        · refine am_if_eq (pc' := 59) (tgt := 64) dX8_dayOf_56 rfl rfl (fun _ => ?_) (fun z => absurd rfl z)
          refine am_iload (pc' := 66) dX8_dayOf_64 rfl rfl ?_
          refine am_istore (pc' := 68) (ls' := [_, _, _, _, _, _]) dX8_dayOf_66 rfl (Nat.le_of_ble_eq_true rfl) rfl rfl ?_
          first | exact K68 _ _ (by omega) dd (by rw [d2, h20]; omega) (fun d hd9 => ih _ _ (by omega) (by omega) (by omega) (md_df_s dd (by omega)) (am_upto hall can) (fun p p0 p1 => by rw [am_u_n (by omega)]; exact f40 p p0 p1) (by rw [am_u_n (by omega)]; exact f21) (by rw [am_u_s, d2, h20, hd9, dy_o_next x0, mt_sum_z_eq (by omega) f40])) | exact K68 _ _ (by omega) dd (by rw [d2, h20]; omega) (fun d hd9 => t8_dayOf_w hM hR h0 (md_df_s dd (by omega)) hw (by omega) (fun v h2 y1 y2 => hq v h2 x y1 (Or.inl ⟨x0, by omega, can, hall⟩) y2)) | fail
theorem t8_dayOf {ρ h : am_H} {b n w : Int} {c : Int → Int} (hM : am_LM ρ) (hR : md_R h) (h0 : h 38 1 ≠ 0) (hb : 0 ≤ b ∧ b + 2 * n ≤ 240 ∧ 0 ≤ n ∧ n ≤ 20) (hc : ∀ t, 0 ≤ t → t < 2 * n → h 56 (b + t) = c t) (hac : dy_acts c n) (hw : o_dw w) :
    am_CT mX8_dayOf 0 0 [am_R 38, am_I b, am_I n, am_I w] ρ h (fun r ρ' h' => ρ' = ρ ∧ md_dfr h h' ∧ ∃ v fw, r = some (am_I v) ∧ dy_fw (h 38 1) (h 38 2) c n fw ∧ o_ofDay (md_nx h) (h 38 1) (h 38 2) fw (dy_f (h 38 1) (h 38 2) (h 39) c (h 40) n.toNat) (dy_s c n.toNat) (dy_o (h 38 1) (h 38 2) (h 39) c (h 40) n.toNat) w v) := by
  have hn58 := hM.1
  refine am_ct (ls := [some (am_R 38), some (am_I b), some (am_I n), some (am_I w), none, none]) ok_X8_dayOf rfl (fun _ => Nat.le_of_ble_eq_true rfl) (fun _ => rfl) (by intro v hv; simpa using hv) ?_
  refine am_bipush (pc' := 2) dX8_dayOf_0 rfl rfl (by decide) ?_
  refine am_istore (pc' := 4) (ls' := [_, _, _, _, _, _]) dX8_dayOf_2 rfl (Nat.le_of_ble_eq_true rfl) rfl rfl ?_
  refine am_aload_n (pc' := 5) dX8_dayOf_4 rfl rfl rfl ?_
  refine am_iconst (pc' := 6) dX8_dayOf_5 rfl rfl ?_
  refine am_putIk (ki := 20) (pc' := 9) (k := 20) (ci := 7) rfl dX8_dayOf_6 rfl fl_X8_206 (by first | assumption | exact ⟨by omega, by omega, rfl⟩) rfl (fun _ _ _ e => by cases e; rfl) ?_
  refine am_aload_n (pc' := 10) dX8_dayOf_9 rfl rfl rfl ?_
  refine am_iconst (pc' := 11) dX8_dayOf_10 rfl rfl ?_
  refine am_putIk (ki := 21) (pc' := 14) (k := 21) (ci := 7) rfl dX8_dayOf_11 rfl fl_X8_200 (by first | assumption | exact ⟨by omega, by omega, rfl⟩) rfl (fun _ _ _ e => by cases e; rfl) ?_
  refine am_iconst (pc' := 15) dX8_dayOf_14 rfl rfl ?_
  refine am_istore (pc' := 17) (ls' := [_, _, _, _, _, _]) dX8_dayOf_15 rfl (Nat.le_of_ble_eq_true rfl) rfl rfl ?_
  exact t8_dayOf_l hM hR h0 hb hc hac hw (fun v h2 fw y1 y2 y3 => ⟨rfl, y1, v, fw, rfl, y2, y3⟩) (n.toNat + 1) 0 _ (by omega) (by omega) (by omega) (md_df_s (md_df_s md_df_r (by omega)) (by omega)) (fun q q0 q1 => by omega) (fun p p0 p1 => by rw [am_u_n (by omega), am_u_n (by omega)]; rfl) (by rw [am_u_s]; rfl) (by rw [am_u_n (by omega), am_u_s]; rfl)
