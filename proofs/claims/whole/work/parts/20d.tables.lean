/-! the model: tables, whole -/
theorem t8_tb2 {ρ h : am_H} {N : Int} {Q : am_Q} (hM : am_LM ρ) (hA : md_A h) (eN : N = mt_pw (h 38 2) (h 38 1).toNat) (h46 : ∀ c, 0 ≤ c → c < N → h 46 c = 0)
    (K : ∀ h1 v, am_fr [43, 44, 45, 46] h h1 → (∀ c, 0 ≤ c → c < N → h1 45 c = nxt (h 38 1) (h 38 2) (h 39) c) → (∀ c, 0 ≤ c → c < N → h1 46 c = mt_sum (fun d => if nxt (h 38 1) (h 38 2) (h 39) d = c then 1 else 0) N.toNat) → am_WP mX8_tables 0 0 94 [some (am_R 38), some (am_I N), some (am_I N), v] [] ρ h1 Q) :
    ∀ (n : Nat) (row : Int) (h1 : am_H) (v : Option am_V), (N - row).toNat < n → 0 ≤ row → row ≤ N → am_fr [43, 44, 45, 46] h h1 → (∀ c, 0 ≤ c → c < row → h1 45 c = nxt (h 38 1) (h 38 2) (h 39) c) → (∀ c, 0 ≤ c → c < N → h1 46 c = mt_sum (fun d => if nxt (h 38 1) (h 38 2) (h 39) d = c then 1 else 0) row.toNat) → am_WP mX8_tables 0 0 49 [some (am_R 38), some (am_I N), some (am_I row), v] [] ρ h1 Q := by
  have hn58 := hM.1
  obtain ⟨a1, a2⟩ := id hA
  have hin := nxt_in (P := h 38 1) (B := h 38 2) (kd := h 39) a1.1 a2.1
  rw [← eN] at hin
  have hN7 := mt_pw_7776 a2.1 a2.2 (h 38 1).toNat (by omega)
  rw [← eN] at hN7
  have e1 := am_lm hM 38 13 45 (by decide)
  have e3 := am_lm hM 38 14 46 (by decide)
  have l1 := am_lm hM 45 (-1) 7776 (by decide)
  have l3 := am_lm hM 46 (-1) 7776 (by decide)
  intro n
  induction n with
  | zero => intro row h1 v hk; omega
  | succ n ih =>
    intro row h1 v hk h0 h9 hf hx hc
    have g1 : ∀ k, h1 38 k = h 38 k := fun k => hf 38 k (by simp <;> omega)
    have g3 : h1 39 = h 39 := funext fun k => hf 39 k (by simp <;> omega)
    have hA1 : md_A h1 := by unfold md_A; rw [g1, g1]; exact hA
    refine am_iload_n (pc' := 50) dX8_tables_49 rfl rfl rfl ?_
    refine am_iload_n (pc' := 51) dX8_tables_50 rfl rfl rfl ?_
    refine am_icmp_ge (pc' := 54) (tgt := 94) dX8_tables_51 rfl rfl (fun c_51 => ?_) (fun c_51 => ?_)
    · have e9 : row = N := by omega
      subst e9
      exact K h1 _ hf hx hc
    · have hv := hin row h0 (by omega)
      have hcc := cnt_in (nx := nxt (h 38 1) (h 38 2) (h 39)) (c := nxt (h 38 1) (h 38 2) (h 39) row) row.toNat
      have hcv := hc _ hv.1 hv.2
      refine am_aload_n (pc' := 55) dX8_tables_54 rfl rfl rfl ?_
      refine am_iload_n (pc' := 56) dX8_tables_55 rfl rfl rfl ?_
      refine am_callV0 (pc' := 59) (as := [_]) (ci := 7)  rfl dX8_tables_56 rfl ok_X8_takesRow ml_X8_173 im_X8_takesRow se_X8_takesRow rfl (Nat.le_of_ble_eq_true rfl) rfl (Nat.le_of_ble_eq_true rfl) (by first | assumption | exact ⟨by omega, by omega, rfl⟩) (t8_takesRow (h := h1) hM hA1 (by omega)) (fun r_56 ρ_56 h_56 q_56 g_56 e_56 => ?_)
      obtain ⟨rfl, rfl, q1, q2⟩ := q_56
      have w1 : ∀ k, h_56 38 k = h 38 k := fun k => (q1 38 k (by simp <;> omega)).trans (g1 k)
      have w3 : h_56 39 = h 39 := (funext fun k => q1 39 k (by simp <;> omega)).trans g3
      have hA2 : md_A h_56 := by unfold md_A; rw [w1, w1]; exact hA
      have w4 : mt_eq (h 38 1) (h_56 43) (dg (h 38 1) (h 38 2) row) := fun p p0 p1 => by rw [q2 p p0 (by rw [g1]; exact p1), g1, g1]
      refine am_aload_n (pc' := 60) dX8_tables_59 rfl rfl rfl ?_
      refine am_callV0 (pc' := 63) (as := []) (ci := 7)  rfl dX8_tables_60 rfl ok_X8_stepsOnce ml_X8_155 im_X8_stepsOnce se_X8_stepsOnce rfl (Nat.le_of_ble_eq_true rfl) rfl (Nat.le_of_ble_eq_true rfl) (by first | assumption | exact ⟨by omega, by omega, rfl⟩) (t8_stepsOnce (h := h_56) hM hA2 (fun p p0 p1 => by rw [w1] at p1; rw [w4 p p0 p1, w1]; exact dg_in a2.1)) (fun r_60 ρ_60 h_60 q_60 g_60 e_60 => ?_)
      obtain ⟨rfl, rfl, q3, q4⟩ := q_60
      have y1 : ∀ k, h_60 38 k = h 38 k := fun k => (q3 38 k (by simp <;> omega)).trans (w1 k)
      have y3 : h_60 39 = h 39 := (funext fun k => q3 39 k (by simp <;> omega)).trans w3
      have hA3 : md_A h_60 := by unfold md_A; rw [y1, y1]; exact hA
      have y4 : mt_eq (h 38 1) (h_60 43) (mt_st (h 38 1) (h 38 2) (h 39) (dg (h 38 1) (h 38 2) row)) := fun p p0 p1 => by
        rw [q4 p p0 (by rw [w1]; exact p1), w1, w1, w3]
        exact mt_st_eq a1.1 (fun _ _ _ => rfl) w4 p p0 p1
      have yf : am_fr [43, 44, 45, 46] h h_60 := am_fr_trans (am_fr_trans hf (am_fr_sub q1 (by intro x hx; simp at hx ⊢; omega))) (am_fr_sub q3 (by intro x hx; simp at hx ⊢; omega))
      have y5 : h_60 45 = h1 45 := funext fun k => (q3 45 k (by simp <;> omega)).trans (q1 45 k (by simp <;> omega))
      have y6 : h_60 46 = h1 46 := funext fun k => (q3 46 k (by simp <;> omega)).trans (q1 46 k (by simp <;> omega))
      refine am_aload_n (pc' := 64) dX8_tables_63 rfl rfl rfl ?_
      refine am_getRk (ki := 13) (pc' := 67) (k := 13) (ci := 7) rfl dX8_tables_64 rfl fl_X8_28 (by first | assumption | exact ⟨by omega, by omega, rfl⟩) rfl (by assumption) (by omega) ?_
      refine am_iload_n (pc' := 68) dX8_tables_67 rfl rfl rfl ?_
      refine am_aload_n (pc' := 69) dX8_tables_68 rfl rfl rfl ?_
      refine am_callVp (pc' := 72) (as := []) (ci := 7)  rfl dX8_tables_69 rfl ok_X8_rowAt ml_X8_145 im_X8_rowAt se_X8_rowAt rfl (Nat.le_of_ble_eq_true rfl) rfl (Nat.le_of_ble_eq_true rfl) (by first | assumption | exact ⟨by omega, by omega, rfl⟩) (t8_rowAt (h := h_60) hM hA3 (fun p p0 p1 => by rw [y1] at p1; rw [y4 p p0 p1, y1]; exact mt_st_in a1.1 (fun q a b => dg_in a2.1) p0 p1)) ?_
      rw [show mt_cd (h_60 38 2) (h_60 43) (h_60 38 1).toNat = nxt (h 38 1) (h 38 2) (h 39) row by rw [y1, y1]; exact mt_cd_eq (fun p p0 p1 => y4 p p0 (by omega))]
      refine am_iastore (pc' := 73) dX8_tables_72 rfl (by first | assumption | exact ⟨by omega, by omega, rfl⟩) (by omega) (by omega) ?_
      refine am_aload_n (pc' := 74) dX8_tables_73 rfl rfl rfl ?_
      refine am_getRk (ki := 14) (pc' := 77) (k := 14) (ci := 7) rfl dX8_tables_74 rfl fl_X8_31 (by first | assumption | exact ⟨by omega, by omega, rfl⟩) rfl (by assumption) (by omega) ?_
      refine am_aload_n (pc' := 78) dX8_tables_77 rfl rfl rfl ?_
      refine am_getRk (ki := 13) (pc' := 81) (k := 13) (ci := 7) rfl dX8_tables_78 rfl fl_X8_28 (by first | assumption | exact ⟨by omega, by omega, rfl⟩) rfl (by assumption) (by omega) ?_
      refine am_iload_n (pc' := 82) dX8_tables_81 rfl rfl rfl ?_
      refine am_iaload (pc' := 83) dX8_tables_82 rfl (by first | assumption | exact ⟨by omega, by omega, rfl⟩) (by omega) (by omega) ?_
      rw [am_u_s]
      refine am_dup2 (pc' := 84) dX8_tables_83 rfl ?_
      refine am_iaload (pc' := 85) dX8_tables_84 rfl (by first | assumption | exact ⟨by omega, by omega, rfl⟩) (by omega) (by omega) ?_
      rw [am_u_n (by omega), y6, hcv]
      refine am_iconst (pc' := 86) dX8_tables_85 rfl rfl ?_
      refine am_iadd (pc' := 87) dX8_tables_86 rfl ⟨by omega, by omega⟩ ?_
      refine am_iastore (pc' := 88) dX8_tables_87 rfl (by first | assumption | exact ⟨by omega, by omega, rfl⟩) (by omega) (by omega) ?_
      refine am_iinc (pc' := 91) (ls' := [_, _, _, _]) dX8_tables_88 rfl rfl ⟨by omega, by omega⟩ (Nat.le_of_ble_eq_true rfl) rfl rfl ?_
      refine am_goto (pc' := 49) dX8_tables_91 rfl ?_
      refine ih _ _ _ (by omega) (by omega) (by omega) (am_fr_u (am_fr_u yf (by simp <;> omega)) (by simp <;> omega)) (am_upto (fun c z0 z1 => ?_) ?_) (fun c z0 z1 => ?_)
      · rw [am_u_n (by omega), am_u_n (by omega), y5]; exact hx c z0 z1
      · rw [am_u_n (by omega), am_u_s]
      · rw [mt_sum_next _ h0, am_u_if]
        by_cases z : c = nxt (h 38 1) (h 38 2) (h 39) row
        · rw [if_pos z, if_pos z.symm, z]
        · rw [if_neg z, if_neg (fun y => z y.symm), am_u_n (by omega), y6, hc c z0 z1]; omega
theorem t8_tb1 {ρ h : am_H} {N : Int} {Q : am_Q} (hM : am_LM ρ) (hN : 0 < N ∧ N ≤ 7776)
    (K : ∀ h1 v, am_fr [46, 48, 49] h h1 → (∀ c, 0 ≤ c → c < N → h1 46 c = 0 ∧ h1 48 c = 0 ∧ h1 49 c = if c = 0 then 1 else 0) → am_WP mX8_tables 0 0 47 [some (am_R 38), some (am_I N), some (am_I N), v] [] ρ h1 Q) :
    ∀ (n : Nat) (row : Int) (h1 : am_H) (v : Option am_V), (N - row).toNat < n → 0 ≤ row → row ≤ N → am_fr [46, 48, 49] h h1 → (∀ c, 0 ≤ c → c < row → h1 46 c = 0 ∧ h1 48 c = 0 ∧ h1 49 c = if c = 0 then 1 else 0) → am_WP mX8_tables 0 0 7 [some (am_R 38), some (am_I N), some (am_I row), v] [] ρ h1 Q := by
  have hn58 := hM.1
  have e1 := am_lm hM 38 14 46 (by decide)
  have e3 := am_lm hM 38 16 48 (by decide)
  have e4 := am_lm hM 38 17 49 (by decide)
  have l1 := am_lm hM 46 (-1) 7776 (by decide)
  have l3 := am_lm hM 48 (-1) 7776 (by decide)
  have l4 := am_lm hM 49 (-1) 7776 (by decide)
  intro n
  induction n with
  | zero => intro row h1 v hk; omega
  | succ n ih =>
    intro row h1 v hk h0 h9 hf hc
    refine am_iload_n (pc' := 8) dX8_tables_7 rfl rfl rfl ?_
    refine am_iload_n (pc' := 9) dX8_tables_8 rfl rfl rfl ?_
    refine am_icmp_ge (pc' := 12) (tgt := 47) dX8_tables_9 rfl rfl (fun c_9 => ?_) (fun c_9 => ?_)
    · have e9 : row = N := by omega
      subst e9
      exact K h1 _ hf hc
    · refine am_aload_n (pc' := 13) dX8_tables_12 rfl rfl rfl ?_
      refine am_getRk (ki := 14) (pc' := 16) (k := 14) (ci := 7) rfl dX8_tables_13 rfl fl_X8_31 (by first | assumption | exact ⟨by omega, by omega, rfl⟩) rfl (by assumption) (by omega) ?_
      refine am_iload_n (pc' := 17) dX8_tables_16 rfl rfl rfl ?_
      refine am_iconst (pc' := 18) dX8_tables_17 rfl rfl ?_
      refine am_iastore (pc' := 19) dX8_tables_18 rfl (by first | assumption | exact ⟨by omega, by omega, rfl⟩) (by omega) (by omega) ?_
      refine am_aload_n (pc' := 20) dX8_tables_19 rfl rfl rfl ?_
      refine am_getRk (ki := 16) (pc' := 23) (k := 16) (ci := 7) rfl dX8_tables_20 rfl fl_X8_37 (by first | assumption | exact ⟨by omega, by omega, rfl⟩) rfl (by assumption) (by omega) ?_
      refine am_iload_n (pc' := 24) dX8_tables_23 rfl rfl rfl ?_
      refine am_iconst (pc' := 25) dX8_tables_24 rfl rfl ?_
      refine am_iastore (pc' := 26) dX8_tables_25 rfl (by first | assumption | exact ⟨by omega, by omega, rfl⟩) (by omega) (by omega) ?_
      refine am_aload_n (pc' := 27) dX8_tables_26 rfl rfl rfl ?_
      refine am_getRk (ki := 17) (pc' := 30) (k := 17) (ci := 7) rfl dX8_tables_27 rfl fl_X8_40 (by first | assumption | exact ⟨by omega, by omega, rfl⟩) rfl (by assumption) (by omega) ?_
      refine am_iload_n (pc' := 31) dX8_tables_30 rfl rfl rfl ?_
      refine am_iload_n (pc' := 32) dX8_tables_31 rfl rfl rfl ?_
      refine am_if_ne (pc' := 35) (tgt := 39) dX8_tables_32 rfl rfl (fun c_32 => ?_) (fun c_32 => ?_)
      · refine am_iconst (pc' := 40) dX8_tables_39 rfl rfl ?_
        refine am_iastore (pc' := 41) dX8_tables_40 rfl (by first | assumption | exact ⟨by omega, by omega, rfl⟩) (by omega) (by omega) ?_
        refine am_iinc (pc' := 44) (ls' := [_, _, _, _]) dX8_tables_41 rfl rfl ⟨by omega, by omega⟩ (Nat.le_of_ble_eq_true rfl) rfl rfl ?_
        refine am_goto (pc' := 7) dX8_tables_44 rfl ?_
        refine ih _ _ _ (by omega) (by omega) (by omega) (am_fr_u (am_fr_u (am_fr_u hf (by simp <;> omega)) (by simp <;> omega)) (by simp <;> omega)) (am_upto (fun c z0 z1 => ?_) ?_)
        · rw [am_u_n (by omega), am_u_n (by omega), am_u_n (by omega), am_u_n (by omega), am_u_n (by omega), am_u_n (by omega), am_u_n (by omega), am_u_n (by omega), am_u_n (by omega)]; exact hc c z0 z1
        · rw [am_u_n (by omega), am_u_n (by omega), am_u_s, am_u_n (by omega), am_u_s, am_u_s]
          first | (rw [if_pos (by omega)]; exact ⟨rfl, rfl, rfl⟩) | (rw [if_neg (by omega)]; exact ⟨rfl, rfl, rfl⟩)
      · refine am_iconst (pc' := 36) dX8_tables_35 rfl rfl ?_
        refine am_goto (pc' := 40) dX8_tables_36 rfl ?_
        refine am_iastore (pc' := 41) dX8_tables_40 rfl (by first | assumption | exact ⟨by omega, by omega, rfl⟩) (by omega) (by omega) ?_
        refine am_iinc (pc' := 44) (ls' := [_, _, _, _]) dX8_tables_41 rfl rfl ⟨by omega, by omega⟩ (Nat.le_of_ble_eq_true rfl) rfl rfl ?_
        refine am_goto (pc' := 7) dX8_tables_44 rfl ?_
        refine ih _ _ _ (by omega) (by omega) (by omega) (am_fr_u (am_fr_u (am_fr_u hf (by simp <;> omega)) (by simp <;> omega)) (by simp <;> omega)) (am_upto (fun c z0 z1 => ?_) ?_)
        · rw [am_u_n (by omega), am_u_n (by omega), am_u_n (by omega), am_u_n (by omega), am_u_n (by omega), am_u_n (by omega), am_u_n (by omega), am_u_n (by omega), am_u_n (by omega)]; exact hc c z0 z1
        · rw [am_u_n (by omega), am_u_n (by omega), am_u_s, am_u_n (by omega), am_u_s, am_u_s]
          first | (rw [if_pos (by omega)]; exact ⟨rfl, rfl, rfl⟩) | (rw [if_neg (by omega)]; exact ⟨rfl, rfl, rfl⟩)
def md_bar (nx : Int → Int) (N : Int) : Int := mt_sum (fun c => if mt_sum (fun d => if nx d = c then 1 else 0) N.toNat = 0 then 1 else 0) N.toNat
def md_TB (ρ h : am_H) (nx : Int → Int) (N : Int) (r : Option am_V) (ρ' h' : am_H) : Prop := r = none ∧ ρ' = ρ ∧ am_fr [38, 43, 44, 45, 46, 47, 48, 49] h h' ∧ (∀ k, k ≠ 18 → k ≠ 19 → h' 38 k = h 38 k) ∧ md_tb h' nx N ∧ h' 38 19 = md_bar nx N
theorem t8_tables {ρ h : am_H} (hM : am_LM ρ) (hA : md_A h) : am_CT mX8_tables 0 0 [am_R 38] ρ h (md_TB ρ h (nxt (h 38 1) (h 38 2) (h 39)) (mt_pw (h 38 2) (h 38 1).toNat)) := by
  have hn58 := hM.1
  obtain ⟨a1, a2⟩ := id hA
  generalize eN : mt_pw (h 38 2) (h 38 1).toNat = N
  have hN : 0 < N ∧ N ≤ 7776 := by
    rw [← eN]
    exact ⟨mt_pw_pos a2.1 _, mt_pw_7776 a2.1 a2.2 _ (by omega)⟩
  generalize en : nxt (h 38 1) (h 38 2) (h 39) = nx
  have h00 : nx 0 = 0 := by rw [← en]; exact nxt_0 a2.1
  have hin : gr_in nx N := by rw [← en, ← eN]; exact nxt_in a1.1 a2.1
  have K186 : ∀ h1 x v, am_fr [38, 43, 44, 45, 46, 47, 48, 49] h h1 → (∀ k, k ≠ 18 → k ≠ 19 → h1 38 k = h 38 k) → h1 38 19 = md_bar nx N → pr_I nx N (h1 46) (h1 47) (h1 38 18) (h1 38 18) → (∀ c, 0 ≤ c → c < N → h1 45 c = nx c) → (∀ c, 0 ≤ c → c < N → h1 48 c = 0 ∧ h1 49 c = if c = 0 then 1 else 0) → am_WP mX8_tables 0 0 186 [some (am_R 38), some (am_I N), some (am_I x), v] [] ρ h1 (md_TB ρ h nx N) := by
    intro h1 x v hf hg hb hp hx h0
    obtain ⟨p1, p3, p4⟩ := pr_end hp hin
    have hqb := hp.1
    have hqN := pr_bound (by omega) (by omega) hp.2.1 hp.2.2.1
    refine am_aload_n (pc' := 187) dX8_tables_186 rfl rfl rfl ?_
    refine am_getIk (ki := 18) (pc' := 190) (k := 18) (ci := 7) rfl dX8_tables_187 rfl fl_X8_167 (by first | assumption | exact ⟨by omega, by omega, rfl⟩) rfl ?_
    refine am_iconst (pc' := 191) dX8_tables_190 rfl rfl ?_
    refine am_isub (pc' := 192) dX8_tables_191 rfl ⟨by omega, by omega⟩ ?_
    refine am_istore_n (pc' := 193) (ls' := [_, _, _, _]) dX8_tables_192 rfl rfl (Nat.le_of_ble_eq_true rfl) rfl rfl ?_
    refine t8_tb5 (q := h1 38 18) (od := h1 47) hM hN h00 hin hx (fun _ _ _ => rfl) hqN hp.2.1 hp.2.2.1 p3 p4 (fun h2 b1 b2 => ⟨rfl, rfl, am_fr_trans hf (am_fr_sub b1 (by intro x hx; simp at hx ⊢; omega)), fun k k1 k2 => (b1 38 k (by simp <;> omega)).trans (hg k k1 k2), ⟨fun c c0 c1 => (b1 45 c (by simp <;> omega)).trans (hx c c0 c1), b2, fun c c0 c1 => by rw [b1 46 c (by simp <;> omega)]; exact p1 c c0 c1⟩, (b1 38 19 (by simp <;> omega)).trans hb⟩) (h1 38 18).toNat _ h1 _ (by omega) (by omega) (by omega) am_fr_refl (fun c c0 c1 hc => ?_) (fun i i0 i1 => by omega)
    have hz := h0 c c0 c1
    refine ⟨by rw [hz.1]; exact ⟨Int.le_refl 0, hc, fun s hs => by omega⟩, ?_⟩
    have ho := gr_out_rt h00 (show gr_rt nx c c from ⟨hc, 0, rfl⟩)
    rw [hz.2]
    by_cases z : c = 0
    · rw [if_pos z]; exact Or.inl ⟨rfl, ho.mpr z⟩
    · rw [if_neg z]; exact Or.inr ⟨rfl, fun y => z (ho.mp y)⟩
  have K126 : ∀ h1 v, am_fr [38, 43, 44, 45, 46, 47, 48, 49] h h1 → (∀ k, k ≠ 18 → h1 38 k = h 38 k) → (∀ c, 0 ≤ c → c < N → h1 46 c = mt_sum (fun d => if nx d = c then 1 else 0) N.toNat) → pr_0 N (h1 46) (h1 47) (h1 38 18) N → (∀ c, 0 ≤ c → c < N → h1 45 c = nx c) → (∀ c, 0 ≤ c → c < N → h1 48 c = 0 ∧ h1 49 c = if c = 0 then 1 else 0) → am_WP mX8_tables 0 0 126 [some (am_R 38), some (am_I N), some (am_I N), v] [] ρ h1 (md_TB ρ h nx N) := by
    intro h1 v hf hg hc hp hx h0
    have hb : h1 38 18 = md_bar nx N := by
      rw [hp.2.2.2.2]
      exact mt_sum_eq (fun c z0 z1 => by rw [hc c z0 (by omega)])
    have u : ∀ x j, ¬ (x = 38 ∧ j = 19) → am_u h1 38 19 (h1 38 18) x j = h1 x j := fun x j z => am_u_n z
    refine am_aload_n (pc' := 127) dX8_tables_126 rfl rfl rfl ?_
    refine am_aload_n (pc' := 128) dX8_tables_127 rfl rfl rfl ?_
    refine am_getIk (ki := 18) (pc' := 131) (k := 18) (ci := 7) rfl dX8_tables_128 rfl fl_X8_167 (by first | assumption | exact ⟨by omega, by omega, rfl⟩) rfl ?_
    refine am_putIk (ki := 19) (pc' := 134) (k := 19) (ci := 7) rfl dX8_tables_131 rfl fl_X8_179 (by first | assumption | exact ⟨by omega, by omega, rfl⟩) rfl (fun _ _ _ e => by cases e; rfl) ?_
    refine am_iconst (pc' := 135) dX8_tables_134 rfl rfl ?_
    refine am_istore_n (pc' := 136) (ls' := [_, _, _, _]) dX8_tables_135 rfl rfl (Nat.le_of_ble_eq_true rfl) rfl rfl ?_
    refine t8_tb4 (h := am_u h1 38 19 (h1 38 18)) (nx := nx) (b := md_bar nx N) hM hN hin (fun c c0 c1 => by rw [u _ _ (by omega)]; exact hx c c0 c1) (fun h2 x v b1 b2 b3 b4 => K186 h2 x v ?_ ?_ b3 b4 ?_ ?_) (N.toNat + 1) 0 _ _ (by omega) (by omega) am_fr_refl (fun _ _ _ => rfl) (by rw [am_u_s]; exact hb) ?_
    · exact am_fr_trans (am_fr_u hf (by simp <;> omega)) (am_fr_sub b1 (by intro x hx; simp at hx ⊢; omega))
    · intro k k1 k2; rw [b2 k k1 k2, u _ _ (by omega)]; exact hg k k1
    · intro c c0 c1; rw [b1 45 c (by simp <;> omega), u _ _ (by omega)]; exact hx c c0 c1
    · intro c c0 c1; rw [b1 48 c (by simp <;> omega), b1 49 c (by simp <;> omega), u _ _ (by omega), u _ _ (by omega)]; exact h0 c c0 c1
    · rw [u 38 18 (by omega), show am_u h1 38 19 (h1 38 18) 46 = h1 46 from funext fun k => u _ _ (by omega), show am_u h1 38 19 (h1 38 18) 47 = h1 47 from funext fun k => u _ _ (by omega)]
      exact pr_0_end hp hc
  have K94 : ∀ h1 v, am_fr [38, 43, 44, 45, 46, 47, 48, 49] h h1 → (∀ k, h1 38 k = h 38 k) → (∀ c, 0 ≤ c → c < N → h1 46 c = mt_sum (fun d => if nx d = c then 1 else 0) N.toNat) → (∀ c, 0 ≤ c → c < N → h1 45 c = nx c) → (∀ c, 0 ≤ c → c < N → h1 48 c = 0 ∧ h1 49 c = if c = 0 then 1 else 0) → am_WP mX8_tables 0 0 94 [some (am_R 38), some (am_I N), some (am_I N), v] [] ρ h1 (md_TB ρ h nx N) := by
    intro h1 v hf hg hc hx h0
    have u : ∀ x j, ¬ (x = 38 ∧ j = 18) → am_u h1 38 18 0 x j = h1 x j := fun x j z => am_u_n z
    refine am_aload_n (pc' := 95) dX8_tables_94 rfl rfl rfl ?_
    refine am_iconst (pc' := 96) dX8_tables_95 rfl rfl ?_
    refine am_putIk (ki := 18) (pc' := 99) (k := 18) (ci := 7) rfl dX8_tables_96 rfl fl_X8_167 (by first | assumption | exact ⟨by omega, by omega, rfl⟩) rfl (fun _ _ _ e => by cases e; rfl) ?_
    refine am_iconst (pc' := 100) dX8_tables_99 rfl rfl ?_
    refine am_istore_n (pc' := 101) (ls' := [_, _, _, _]) dX8_tables_100 rfl rfl (Nat.le_of_ble_eq_true rfl) rfl rfl ?_
    refine t8_tb3 (h := am_u h1 38 18 0) hM hN (fun h2 v b1 b2 b3 => K126 h2 v ?_ ?_ ?_ ?_ ?_ ?_) (N.toNat + 1) 0 _ _ (by omega) (by omega) (by omega) am_fr_refl (fun _ _ => rfl) ?_
    · exact am_fr_trans (am_fr_u hf (by simp <;> omega)) (am_fr_sub b1 (by intro x hx; simp at hx ⊢; omega))
    · intro k k1; rw [b2 k k1, u _ _ (by omega)]; exact hg k
    · intro c c0 c1; rw [b1 46 c (by simp <;> omega), u _ _ (by omega)]; exact hc c c0 c1
    · rw [show h2 46 = am_u h1 38 18 0 46 from funext fun k => b1 46 k (by simp <;> omega)]; exact b3
    · intro c c0 c1; rw [b1 45 c (by simp <;> omega), u _ _ (by omega)]; exact hx c c0 c1
    · intro c c0 c1; rw [b1 48 c (by simp <;> omega), b1 49 c (by simp <;> omega), u _ _ (by omega), u _ _ (by omega)]; exact h0 c c0 c1
    · rw [am_u_s]; exact pr_0_init (by omega)
  have K47 : ∀ h1 v, am_fr [46, 48, 49] h h1 → (∀ c, 0 ≤ c → c < N → h1 46 c = 0 ∧ h1 48 c = 0 ∧ h1 49 c = if c = 0 then 1 else 0) → am_WP mX8_tables 0 0 47 [some (am_R 38), some (am_I N), some (am_I N), v] [] ρ h1 (md_TB ρ h nx N) := by
    intro h1 v hf hc
    have g1 : ∀ k, h1 38 k = h 38 k := fun k => hf 38 k (by simp <;> omega)
    have g3 : h1 39 = h 39 := funext fun k => hf 39 k (by simp <;> omega)
    have en1 : nxt (h1 38 1) (h1 38 2) (h1 39) = nx := by rw [g1, g1, g3]; exact en
    refine am_iconst (pc' := 48) dX8_tables_47 rfl rfl ?_
    refine am_istore_n (pc' := 49) (ls' := [_, _, _, _]) dX8_tables_48 rfl rfl (Nat.le_of_ble_eq_true rfl) rfl rfl ?_
    refine t8_tb2 (h := h1) hM (by unfold md_A; rw [g1, g1]; exact hA) (by rw [g1, g1]; exact eN.symm) (fun c c0 c1 => (hc c c0 c1).1) (fun h2 v b1 b2 b3 => K94 h2 v ?_ ?_ ?_ ?_ ?_) (N.toNat + 1) 0 h1 _ (by omega) (by omega) (by omega) am_fr_refl (fun c z0 z1 => by omega) (fun c c0 c1 => (hc c c0 c1).1)
    · exact am_fr_trans (am_fr_sub hf (by intro x hx; simp at hx ⊢; omega)) (am_fr_sub b1 (by intro x hx; simp at hx ⊢; omega))
    · intro k; rw [b1 38 k (by simp <;> omega)]; exact g1 k
    · intro c c0 c1; rw [b3 c c0 c1, en1]
    · intro c c0 c1; rw [b2 c c0 c1, en1]
    · intro c c0 c1; rw [b1 48 c (by simp <;> omega), b1 49 c (by simp <;> omega)]; exact (hc c c0 c1).2
  refine am_ct (ls := [some (am_R 38), none, none, none]) ok_X8_tables rfl (fun _ => Nat.le_of_ble_eq_true rfl) (fun _ => rfl) (by intro v hv; simpa using hv) ?_
  refine am_aload_n (pc' := 1) dX8_tables_0 rfl rfl rfl ?_
  refine am_callVp (pc' := 4) (as := []) (ci := 7)  rfl dX8_tables_1 rfl ok_X8_allRows ml_X8_170 im_X8_allRows se_X8_allRows rfl (Nat.le_of_ble_eq_true rfl) rfl (Nat.le_of_ble_eq_true rfl) (by first | assumption | exact ⟨by omega, by omega, rfl⟩) (t8_allRows hM hA) ?_
  rw [eN]
  refine am_istore_n (pc' := 5) (ls' := [_, _, _, _]) dX8_tables_4 rfl rfl (Nat.le_of_ble_eq_true rfl) rfl rfl ?_
  refine am_iconst (pc' := 6) dX8_tables_5 rfl rfl ?_
  refine am_istore_n (pc' := 7) (ls' := [_, _, _, _]) dX8_tables_6 rfl rfl (Nat.le_of_ble_eq_true rfl) rfl rfl ?_
  exact t8_tb1 hM hN K47 (N.toNat + 1) 0 h _ (by omega) (by omega) (by omega) am_fr_refl (fun c z0 z1 => by omega)
