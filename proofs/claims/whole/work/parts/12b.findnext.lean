/-! AllRows: what each row becomes; the order in which they are taken away -/
def ar_nx (h : am_H) : Int → Int := nxt (h 20 1) (h 20 0) (h 21)
def ar_OK (h : am_H) (L : Int) : Prop := (2 ≤ h 20 1 ∧ h 20 1 ≤ 5) ∧ (2 ≤ h 20 0 ∧ h 20 0 ≤ 6) ∧ h 19 7 = mt_pw (h 20 0) (h 20 1).toNat ∧ h 19 7 ≤ L
theorem ar_N {h : am_H} {L : Int} (hO : ar_OK h L) : 0 < h 19 7 ∧ h 19 7 ≤ 7776 := by
  obtain ⟨a, b, c, d⟩ := hO
  have h1 := mt_pw_pos b.1 (h 20 1).toNat
  have h2 := mt_pw_7776 b.1 b.2 (h 20 1).toNat (by omega)
  omega
theorem ar_in {h : am_H} {L : Int} (hO : ar_OK h L) : gr_in (ar_nx h) (h 19 7) := by
  obtain ⟨a, b, c, d⟩ := hO
  rw [c]
  exact nxt_in a.1 b.1
theorem cnt_in {nx : Int → Int} {c : Int} (n : Nat) : 0 ≤ mt_sum (fun d => if nx d = c then 1 else 0) n ∧ mt_sum (fun d => if nx d = c then 1 else 0) n ≤ n := by
  have := mt_sum_nn (f := fun d => if nx d = c then 1 else 0) (M := 1) (n := n) (fun p _ _ => by split <;> omega)
  omega
theorem t_findNext_l {ρ h : am_H} {A L : Int} {Q : am_Q} (hC : am_LC ρ) (hD : am_DA ρ A L) (hO : ar_OK h L)
    (hq : ∀ h1, am_fr [A, A + 1, 22] h h1 → (∀ c, 0 ≤ c → c < h 19 7 → h1 A c = ar_nx h c) → (∀ c, 0 ≤ c → c < h 19 7 → h1 (A + 1) c = mt_sum (fun d => if ar_nx h d = c then 1 else 0) (h 19 7).toNat) → Q none ρ h1) :
    ∀ (n : Nat) (row : Int) (w : Option am_V) (h1 : am_H), (h 19 7 - row).toNat < n → 0 ≤ row → row ≤ h 19 7 → am_fr [A, A + 1, 22] h h1 → (∀ c, 0 ≤ c → c < row → h1 A c = ar_nx h c) → (∀ c, 0 ≤ c → c < h 19 7 → h1 (A + 1) c = mt_sum (fun d => if ar_nx h d = c then 1 else 0) row.toNat) → mt_ok (h 20 1) (h 20 0) (h1 22) → (row < h 19 7 → mt_cd (h 20 0) (h1 22) (h 20 1).toNat = row) → am_WP mX0_findNext 0 0 17 [some (am_R 19), some (am_I row), w] [] ρ h1 Q := by
  obtain ⟨k0, k1, k2, k3, k4, k5, ⟨e1, e2, e3, e4, e5⟩, ⟨l1, l2, l3, l4, l5⟩, hA, hL0⟩ := am_DAx hD
  have hn58 := hC.1
  have hR := am_RA20 hC
  have ep := am_lc hC 19 0 20 (by decide)
  have hN := ar_N hO
  have hin := ar_in hO
  obtain ⟨o1, o2, o3, o4⟩ := id hO
  intro n
  induction n with
  | zero => intro row w h1 hk; omega
  | succ n ih =>
    intro row w h1 hk h0 h9 hf hnx hcm hok hcd
    have g0 : h1 20 0 = h 20 0 := hf 20 0 (by simp <;> omega)
    have g1 : h1 20 1 = h 20 1 := hf 20 1 (by simp <;> omega)
    have g2 : h1 21 = h 21 := funext fun k => hf 21 k (by simp <;> omega)
    have g3 : h1 19 7 = h 19 7 := hf 19 7 (by simp <;> omega)
    have hRO : am_RO h1 20 := ⟨by omega, by omega, by omega, by omega, by rw [g0, g1]; exact hok⟩
    have hst : row < h 19 7 → mt_cd (h1 20 0) (mt_st (h1 20 1) (h1 20 0) (h1 (20 + 1)) (h1 (20 + 2))) (h1 20 1).toNat = ar_nx h row := fun z => by
      show mt_cd (h1 20 0) (mt_st (h1 20 1) (h1 20 0) (h1 21) (h1 22)) (h1 20 1).toNat = _
      rw [g0, g1, g2, ← nxt_cd o1.1 o2.1 hok, hcd z]
      rfl
    refine am_iload_n (pc' := 18) dX0_findNext_17 rfl rfl rfl ?_
    refine am_aload_n (pc' := 19) dX0_findNext_18 rfl rfl rfl ?_
    refine am_getIk (ki := 7) (pc' := 22) (k := 7) (ci := 0) rfl dX0_findNext_19 rfl fl_X0_38 (by first | assumption | exact ⟨by omega, by omega, rfl⟩) rfl ?_
    refine am_icmp_ge (pc' := 25) (tgt := 71) dX0_findNext_22 rfl rfl (fun c_22 => ?_) (fun c_22 => ?_)
    · refine am_retv dX0_findNext_71 rfl ?_
      exact hq h1 hf (fun c z0 z1 => hnx c z0 (by omega)) (fun c z0 z1 => by rw [hcm c z0 z1, show row.toNat = (h 19 7).toNat by omega])
    · have hv := hin row h0 (by omega)
      have hcc := cnt_in (nx := ar_nx h) (c := ar_nx h row) row.toNat
      have hcv := hcm _ hv.1 hv.2
      refine am_aload_n (pc' := 26) dX0_findNext_25 rfl rfl rfl ?_
      refine am_getRk (ki := 0) (pc' := 29) (k := 0) (ci := 0) rfl dX0_findNext_26 rfl fl_X0_12 (by first | assumption | exact ⟨by omega, by omega, rfl⟩) rfl (by assumption) (by omega) ?_
      refine am_callVp (pc' := 32) (as := []) (ci := 3)  rfl dX0_findNext_29 rfl ok_X3_steppedCode ml_X0_100 im_X3_steppedCode se_X3_steppedCode rfl (Nat.le_of_ble_eq_true rfl) rfl (Nat.le_of_ble_eq_true rfl) (by first | assumption | exact ⟨by omega, by omega, rfl⟩) (t_steppedCode hR hRO) ?_
      rw [hst (by omega)]
      refine am_istore_n (pc' := 33) (ls' := [_, _, _]) dX0_findNext_32 rfl rfl (Nat.le_of_ble_eq_true rfl) rfl rfl ?_
      refine am_aload_n (pc' := 34) dX0_findNext_33 rfl rfl rfl ?_
      refine am_iload_n (pc' := 35) dX0_findNext_34 rfl rfl rfl ?_
      refine am_callVp (pc' := 38) (as := [_]) (ci := 0)  rfl dX0_findNext_35 rfl ok_X0_isRow ml_X0_104 im_X0_isRow se_X0_isRow rfl (Nat.le_of_ble_eq_true rfl) rfl (Nat.le_of_ble_eq_true rfl) (by first | assumption | exact ⟨by omega, by omega, rfl⟩) (t_isRow (h := h1) hD) ?_
      refine am_if_eq (pc' := 41) (tgt := 58) dX0_findNext_38 rfl rfl (fun c_38 => ?_) (fun c_38 => ?_)
      · simp only [am_z0, am_z1, ne_eq] at c_38
        exfalso; omega
      · simp only [am_z0, am_z1, ne_eq] at c_38
        refine am_aload_n (pc' := 42) dX0_findNext_41 rfl rfl rfl ?_
        refine am_getRk (ki := 1) (pc' := 45) (k := 1) (ci := 0) rfl dX0_findNext_42 rfl fl_X0_18 (by first | assumption | exact ⟨by omega, by omega, rfl⟩) rfl (by assumption) (by omega) ?_
        refine am_iload_n (pc' := 46) dX0_findNext_45 rfl rfl rfl ?_
        refine am_iload_n (pc' := 47) dX0_findNext_46 rfl rfl rfl ?_
        refine am_iastore (pc' := 48) dX0_findNext_47 rfl (by first | assumption | exact ⟨by omega, by omega, rfl⟩) (by omega) (by omega) ?_
        refine am_aload_n (pc' := 49) dX0_findNext_48 rfl rfl rfl ?_
        refine am_getRk (ki := 2) (pc' := 52) (k := 2) (ci := 0) rfl dX0_findNext_49 rfl fl_X0_22 (by first | assumption | exact ⟨by omega, by omega, rfl⟩) rfl (by assumption) (by omega) ?_
        refine am_iload_n (pc' := 53) dX0_findNext_52 rfl rfl rfl ?_
        refine am_dup2 (pc' := 54) dX0_findNext_53 rfl ?_
        refine am_iaload (pc' := 55) dX0_findNext_54 rfl (by first | assumption | exact ⟨by omega, by omega, rfl⟩) (by omega) (by omega) ?_
        rw [am_u_n (by omega), hcv]
        refine am_iconst (pc' := 56) dX0_findNext_55 rfl rfl ?_
        refine am_iadd (pc' := 57) dX0_findNext_56 rfl ⟨by omega, by omega⟩ ?_
        refine am_iastore (pc' := 58) dX0_findNext_57 rfl (by first | assumption | exact ⟨by omega, by omega, rfl⟩) (by omega) (by omega) ?_
        refine am_aload_n (pc' := 59) dX0_findNext_58 rfl rfl rfl ?_
        refine am_getRk (ki := 0) (pc' := 62) (k := 0) (ci := 0) rfl dX0_findNext_59 rfl fl_X0_12 (by first | assumption | exact ⟨by omega, by omega, rfl⟩) rfl (by assumption) (by omega) ?_
        refine am_callV0 (pc' := 65) (as := []) (ci := 3)  rfl dX0_findNext_62 rfl ok_X3_takeNextRow ml_X0_108 im_X3_takeNextRow se_X3_takeNextRow rfl (Nat.le_of_ble_eq_true rfl) rfl (Nat.le_of_ble_eq_true rfl) (by first | assumption | exact ⟨by omega, by omega, rfl⟩) (t_takeNextRow hR (h := am_u (am_u h1 A row (ar_nx h row)) (A + 1) (ar_nx h row) (mt_sum (fun d => if ar_nx h d = ar_nx h row then 1 else 0) row.toNat + 1)) ⟨by rw [am_u_n (by omega), am_u_n (by omega)]; omega, by rw [am_u_n (by omega), am_u_n (by omega)]; omega, by rw [am_u_n (by omega), am_u_n (by omega)]; omega, by rw [am_u_n (by omega), am_u_n (by omega)]; omega, fun p z0 z1 => by rw [am_u_n (by omega), am_u_n (by omega)] at z1 ⊢; rw [am_u_n (by omega), am_u_n (by omega)]; exact hRO.2.2.2.2 p z0 z1⟩) (fun r_62 ρ_62 h_62 q_62 g_62 e_62 => ?_)
        obtain ⟨rfl, rfl, q1, q2, q3⟩ := q_62
        have u0 : ∀ k, am_u (am_u h1 A row (ar_nx h row)) (A + 1) (ar_nx h row) (mt_sum (fun d => if ar_nx h d = ar_nx h row then 1 else 0) row.toNat + 1) 20 k = h1 20 k := fun k => by rw [am_u_n (by omega), am_u_n (by omega)]
        have u1 : am_u (am_u h1 A row (ar_nx h row)) (A + 1) (ar_nx h row) (mt_sum (fun d => if ar_nx h d = ar_nx h row then 1 else 0) row.toNat + 1) (20 + 2) = h1 22 := funext fun k => by rw [am_u_n (by omega), am_u_n (by omega)]; rfl
        rw [u0, u0, g0, g1] at q2
        rw [u0, u0, u1, g0, g1, hcd (by omega), ← o3] at q3
        refine am_iinc (pc' := 68) (ls' := [_, _, _]) dX0_findNext_65 rfl rfl ⟨by omega, by omega⟩ (Nat.le_of_ble_eq_true rfl) rfl rfl ?_
        refine am_goto (pc' := 17) dX0_findNext_68 rfl ?_
        refine ih _ _ _ (by omega) (by omega) (by omega) (am_fr_trans (am_fr_u (am_fr_u hf (by simp <;> omega)) (by simp <;> omega)) (am_fr_sub q1 (by intro x hx; simp at hx ⊢; omega))) (fun c z0 z1 => ?_) (fun c z0 z1 => ?_) q2 (fun z => q3 z)
        · rw [q1 A c (by simp <;> omega), am_u_n (by omega)]
          by_cases z : c = row
          · rw [z, am_u_s]
          · rw [am_u_n (by omega)]; exact hnx c z0 (by omega)
        · rw [q1 (A + 1) c (by simp <;> omega), mt_sum_next _ h0]
          by_cases z : c = ar_nx h row
          · rw [z, am_u_s, if_pos rfl]
          · rw [am_u_n (by omega), am_u_n (by omega), hcm c z0 z1, if_neg (fun y => z y.symm)]; omega
theorem t_findNext {ρ h : am_H} {A L : Int} (hC : am_LC ρ) (hD : am_DA ρ A L) (hO : ar_OK h L) : am_CT mX0_findNext 0 0 [am_R 19] ρ h (fun v ρ' h1 => v = none ∧ ρ' = ρ ∧ am_fr [A, A + 1, 22] h h1 ∧ (∀ c, 0 ≤ c → c < h 19 7 → h1 A c = ar_nx h c) ∧ ∀ c, 0 ≤ c → c < h 19 7 → h1 (A + 1) c = mt_sum (fun d => if ar_nx h d = c then 1 else 0) (h 19 7).toNat) := by
  obtain ⟨k0, k1, k2, k3, k4, k5, ⟨e1, e2, e3, e4, e5⟩, ⟨l1, l2, l3, l4, l5⟩, hA, hL0, hL7⟩ := am_DAx hD
  have hn58 := hC.1
  have hR := am_RA20 hC
  have ep := am_lc hC 19 0 20 (by decide)
  have hN := ar_N hO
  obtain ⟨o1, o2, o3, o4⟩ := id hO
  refine am_ct (ls := [some (am_R 19), none, none]) ok_X0_findNext rfl (fun _ => Nat.le_of_ble_eq_true rfl) (fun _ => rfl) (by intro v hv; simpa using hv) ?_
  refine am_aload_n (pc' := 1) dX0_findNext_0 rfl rfl rfl ?_
  refine am_getRk (ki := 2) (pc' := 4) (k := 2) (ci := 0) rfl dX0_findNext_1 rfl fl_X0_22 (by first | assumption | exact ⟨by omega, by omega, rfl⟩) rfl (by assumption) (by omega) ?_
  refine am_iconst (pc' := 5) dX0_findNext_4 rfl rfl ?_
  refine am_callS0 (pc' := 8) (as := [_, _])  rfl dX0_findNext_5 rfl ok_J7_fill_53178 ml_X0_91 sm_J7_fill_53178 (Nat.le_of_ble_eq_true rfl) rfl (Nat.le_of_ble_eq_true rfl) (t_fill k2 l2 (by omega) (by omega)) (fun r_5 ρ_5 h_5 q_5 g_5 e_5 => ?_)
  obtain ⟨rfl, rfl, f1, f2⟩ := q_5
  refine am_aload_n (pc' := 9) dX0_findNext_8 rfl rfl rfl ?_
  refine am_getRk (ki := 0) (pc' := 12) (k := 0) (ci := 0) rfl dX0_findNext_9 rfl fl_X0_12 (by first | assumption | exact ⟨by omega, by omega, rfl⟩) rfl (by assumption) (by omega) ?_
  refine am_callV0 (pc' := 15) (as := []) (ci := 3)  rfl dX0_findNext_12 rfl ok_X3_takeFirstRow ml_X0_97 im_X3_takeFirstRow se_X3_takeFirstRow rfl (Nat.le_of_ble_eq_true rfl) rfl (Nat.le_of_ble_eq_true rfl) (by first | assumption | exact ⟨by omega, by omega, rfl⟩) (t_takeFirstRow hR) (fun r_12 ρ_12 h_12 q_12 g_12 e_12 => ?_)
  obtain ⟨rfl, rfl, f3, f4⟩ := q_12
  refine am_iconst (pc' := 16) dX0_findNext_15 rfl rfl ?_
  refine am_istore_n (pc' := 17) (ls' := [_, _, _]) dX0_findNext_16 rfl rfl (Nat.le_of_ble_eq_true rfl) rfl rfl ?_
  refine t_findNext_l hC hD hO (fun h1 a b c => ⟨rfl, rfl, a, b, c⟩) ((h 19 7).toNat + 1) 0 _ _ (by omega) (by omega) (by omega) (am_fr_trans (am_fr_sub f1 (by intro x hx; simp at hx ⊢; omega)) (am_fr_sub f3 (by intro x hx; simp at hx ⊢; omega))) (fun c z0 z1 => by omega) (fun c z0 z1 => ?_) (fun p z0 z1 => ?_) (fun _ => ?_)
  · rw [f3 (A + 1) c (by simp <;> omega), f2 c z0 (by omega)]; rfl
  · have := f4 p z0 (by omega)
    rw [show (20 + 2 : Int) = 22 from rfl] at this
    omega
  · exact mt_cd_0 (fun p z0 z1 => f4 p z0 (by omega))
