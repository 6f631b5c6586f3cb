/-! DifferRings: kinds, firsts -/
def o_so (h : am_H) (kd f : Int → Int) : Prop := so_g (h 33 3) (h 34) (h 35) (h 36) (h 11 1) (h 11 0) kd f
theorem cl_tr {h h1 h2 : am_H} (hG : am_RO h 11) (hO : rd_OK h (h 11 1)) (hf : am_fr [15, 16, 17, 18] h h1) (q1 : am_fr [15, 16, 17] h1 h2) (q2 : h2 15 0 = h1 11 0) (q3 : h2 15 1 = h1 11 1) (q4 : ∀ p, 0 ≤ p → p < 5 → h2 (15 + 1) p = h1 (11 + 1) p) (q5 : ∀ p, 0 ≤ p → p < 5 → h2 (15 + 2) p = h1 (11 + 2) p) :
    am_fr [15, 16, 17, 18] h h2 ∧ h2 15 0 = h 11 0 ∧ h2 15 1 = h 11 1 ∧ (∀ p, 0 ≤ p → p < 5 → h2 16 p = h 12 p) ∧ (∀ p, 0 ≤ p → p < 5 → h2 17 p = h 13 p) ∧ rd_OK h2 (h 11 1) := by
  have g : am_fr [15, 16, 17, 18] h h2 := am_fr_trans hf (am_fr_sub q1 (by intro x hx; simp at hx ⊢; omega))
  refine ⟨g, by rw [q2, hf 11 0 (by simp <;> omega)], by rw [q3, hf 11 1 (by simp <;> omega)], fun p p0 p1 => ?_, fun p p0 p1 => ?_, ?_⟩
  · exact (q4 p p0 p1).trans (hf 12 p (by simp <;> omega))
  · exact (q5 p p0 p1).trans (hf 13 p (by simp <;> omega))
  · unfold rd_OK at hO ⊢
    rw [g 33 3 (by simp <;> omega), show h2 34 = h 34 from funext fun k => g 34 k (by simp <;> omega), show h2 35 = h 35 from funext fun k => g 35 k (by simp <;> omega)]
    exact hO
theorem cl_so {h h3 : am_H} {kd f : Int → Int} (hG : am_RO h 11) (hO : rd_OK h (h 11 1)) (g : am_fr [15, 16, 17, 18] h h3) (e0 : h3 15 0 = h 11 0) (e1 : h3 15 1 = h 11 1) (hk : mt_eq (h 11 1) (h3 (15 + 1)) kd) (hf : mt_eq (h 11 1) (h3 (15 + 2)) f) : rd_so h3 (h3 15 1) (h3 15 0) (h3 (15 + 1)) (h3 (15 + 2)) ↔ o_so h kd f := by
  unfold rd_so o_so
  rw [e0, e1, g 33 3 (by simp <;> omega), show h3 34 = h 34 from funext fun k => g 34 k (by simp <;> omega), show h3 35 = h 35 from funext fun k => g 35 k (by simp <;> omega), show h3 36 = h 36 from funext fun k => g 36 k (by simp <;> omega)]
  exact so_iff hG.1 (fun k k0 k1 => (hO.2.2 k k0 k1).2.2) (fun _ _ _ => rfl) (fun _ _ _ => rfl) (fun _ _ _ => rfl) hk hf
theorem t_kinds_l {ρ h : am_H} {p : Int} {Q : am_Q} (hC : am_LC ρ) (hG : am_RO h 11) (hO : rd_OK h (h 11 1)) (hp : 0 ≤ p ∧ p < h 11 1) (hq : ∀ h1 S, am_fr [15, 16, 17, 18] h h1 → st_is 3 (fun k => o_so h (mt_up (h 12) p k) (h 13)) S → Q (some (am_I S)) ρ h1) :
    ∀ (n : Nat) (k S : Int) (h1 : am_H), (3 - k).toNat < n → 0 ≤ k → k ≤ 3 → am_fr [15, 16, 17, 18] h h1 → st_is k (fun k => o_so h (mt_up (h 12) p k) (h 13)) S → am_WP mX7_kinds 0 0 17 [some (am_R 1), some (am_I p), some (am_I S), some (am_I k)] [] ρ h1 Q := by
  have hn58 := hC.1
  have hR := am_RA11 hC
  have hR15 := am_RA15 hC
  have e1 := am_lc hC 1 1 11 (by decide)
  have e2 := am_lc hC 1 2 15 (by decide)
  have e3 := am_lc hC 1 5 33 (by decide)
  have e4 := am_lc hC 15 2 16 (by decide)
  have e5 := am_lc hC 16 (-1) 5 (by decide)
  obtain ⟨o1, o2, o3, o4, o5⟩ := id hG
  intro n
  induction n with
  | zero => intro k S h1 hk; omega
  | succ n ih =>
    intro k S h1 hk h0 h9 hf hS
    have hSb := st_lt hS (by omega)
    have gB : h1 11 0 = h 11 0 := hf 11 0 (by simp <;> omega)
    have K63 : ∀ S' h2, k < 3 → am_fr [15, 16, 17, 18] h h2 → st_is (k + 1) (fun k => o_so h (mt_up (h 12) p k) (h 13)) S' → am_WP mX7_kinds 0 0 63 [some (am_R 1), some (am_I p), some (am_I S'), some (am_I k)] [] ρ h2 Q := by
      intro S' h2 hk3 hf2 hS2
      refine am_iinc (pc' := 66) (ls' := [_, _, _, _]) dX7_kinds_63 rfl rfl ⟨by omega, by omega⟩ (Nat.le_of_ble_eq_true rfl) rfl rfl ?_
      refine am_goto (pc' := 17) dX7_kinds_66 rfl ?_
      exact ih _ _ _ (by omega) (by omega) (by omega) hf2 hS2
    have K57 : ∀ h2, k < 3 → am_fr [15, 16, 17, 18] h h2 → o_so h (mt_up (h 12) p k) (h 13) → am_WP mX7_kinds 0 0 57 [some (am_R 1), some (am_I p), some (am_I S), some (am_I k)] [] ρ h2 Q := by
      intro h2 hk3 hf2 hA
      have h2p : (2 : Nat) ^ k.toNat ≤ 32 := two5 (by omega)
      refine am_iload_n (pc' := 58) dX7_kinds_57 rfl rfl rfl ?_
      refine am_iconst (pc' := 59) dX7_kinds_58 rfl rfl ?_
      refine am_iload_n (pc' := 60) dX7_kinds_59 rfl rfl rfl ?_
      refine am_ishl1 (pc' := 61) dX7_kinds_60 rfl (by omega) (by omega) ?_
      refine am_ior (pc' := 62) dX7_kinds_61 rfl ⟨by omega, by omega⟩ ⟨Int.natCast_nonneg _, by omega⟩ ?_
      refine am_istore_n (pc' := 63) (ls' := [_, _, _, _]) dX7_kinds_62 rfl rfl (Nat.le_of_ble_eq_true rfl) rfl rfl ?_
      exact K63 _ h2 hk3 hf2 (st_add hS h0 hA)
    refine am_iload_n (pc' := 18) dX7_kinds_17 rfl rfl rfl ?_
    refine am_iconst (pc' := 19) dX7_kinds_18 rfl rfl ?_
    refine am_icmp_gt (pc' := 22) (tgt := 69) dX7_kinds_19 rfl rfl (fun c_19 => ?_) (fun c_19 => ?_)
    · refine am_iload_n (pc' := 70) dX7_kinds_69 rfl rfl rfl ?_
      refine am_reti dX7_kinds_70 rfl ?_
      exact hq h1 S hf (by rw [show (3 : Int) = k by omega]; exact hS)
    · refine am_aload_n (pc' := 23) dX7_kinds_22 rfl rfl rfl ?_
      refine am_getRk (ki := 2) (pc' := 26) (k := 2) (ci := 6) rfl dX7_kinds_23 rfl fl_X7_25 (by first | assumption | exact ⟨by omega, by omega, rfl⟩) rfl (by assumption) (by omega) ?_
      refine am_aload_n (pc' := 27) dX7_kinds_26 rfl rfl rfl ?_
      refine am_getRk (ki := 1) (pc' := 30) (k := 1) (ci := 6) rfl dX7_kinds_27 rfl fl_X7_21 (by first | assumption | exact ⟨by omega, by omega, rfl⟩) rfl (by assumption) (by omega) ?_
      refine am_callV0 (pc' := 33) (as := [_]) (ci := 3)  rfl dX7_kinds_30 rfl ok_X3_takeAll ml_X7_150 im_X3_takeAll se_X3_takeAll rfl (Nat.le_of_ble_eq_true rfl) rfl (Nat.le_of_ble_eq_true rfl) (by first | assumption | exact ⟨by omega, by omega, rfl⟩) (t_takeAll hR15 hR (by omega)) (fun r_30 ρ_30 h_30 q_30 g_30 e_30 => ?_)
      obtain ⟨rfl, rfl, q1, q2, q3, q4, q5⟩ := q_30
      obtain ⟨g1, g2, g3, g4, g5, g6⟩ := cl_tr hG hO hf q1 q2 q3 q4 q5
      refine am_aload_n (pc' := 34) dX7_kinds_33 rfl rfl rfl ?_
      refine am_getRk (ki := 2) (pc' := 37) (k := 2) (ci := 6) rfl dX7_kinds_34 rfl fl_X7_25 (by first | assumption | exact ⟨by omega, by omega, rfl⟩) rfl (by assumption) (by omega) ?_
      refine am_getRk (ki := 2) (pc' := 40) (k := 2) (ci := 3) rfl dX7_kinds_37 rfl fl_X7_101 (by first | assumption | exact ⟨by omega, by omega, rfl⟩) rfl (by assumption) (by omega) ?_
      refine am_iload_n (pc' := 41) dX7_kinds_40 rfl rfl rfl ?_
      refine am_iload_n (pc' := 42) dX7_kinds_41 rfl rfl rfl ?_
      refine am_iastore (pc' := 43) dX7_kinds_42 rfl (by first | assumption | exact ⟨by omega, by omega, rfl⟩) (by omega) (by omega) ?_
      have u0 : am_u h_30 16 p k 15 0 = h 11 0 := by rw [am_u_n (by omega), g2]
      have u1 : am_u h_30 16 p k 15 1 = h 11 1 := by rw [am_u_n (by omega), g3]
      have uf : am_fr [15, 16, 17, 18] h (am_u h_30 16 p k) := am_fr_u g1 (by simp <;> omega)
      have u2 : mt_eq (h 11 1) (am_u h_30 16 p k (15 + 2)) (h 13) := fun q a b => by
        rw [am_u_n (by omega)]; exact g5 q a (by omega)
      have u3 : mt_eq (h 11 1) (am_u h_30 16 p k (15 + 1)) (mt_up (h 12) p k) := fun q a b => by
        show am_u h_30 16 p k 16 q = _
        rw [am_u_if]; unfold mt_up
        split
        · rfl
        · exact g4 q a (by omega)
      have uR : am_RO (am_u h_30 16 p k) 15 := ⟨by omega, by omega, by omega, by omega, fun q a b => by rw [u1] at b; rw [u2 q a b, u0]; exact o5 q a b⟩
      have uO : rd_OK (am_u h_30 16 p k) (am_u h_30 16 p k 15 1) := by
        rw [u1]; unfold rd_OK at g6 ⊢
        rw [am_u_n (by omega), show am_u h_30 16 p k 34 = h_30 34 from funext fun _ => am_u_n (by omega), show am_u h_30 16 p k 35 = h_30 35 from funext fun _ => am_u_n (by omega)]
        exact g6
      refine am_aload_n (pc' := 44) dX7_kinds_43 rfl rfl rfl ?_
      refine am_getRk (ki := 5) (pc' := 47) (k := 5) (ci := 6) rfl dX7_kinds_44 rfl fl_X7_45 (by first | assumption | exact ⟨by omega, by omega, rfl⟩) rfl (by assumption) (by omega) ?_
      refine am_aload_n (pc' := 48) dX7_kinds_47 rfl rfl rfl ?_
      refine am_getRk (ki := 2) (pc' := 51) (k := 2) (ci := 6) rfl dX7_kinds_48 rfl fl_X7_25 (by first | assumption | exact ⟨by omega, by omega, rfl⟩) rfl (by assumption) (by omega) ?_
      refine am_callV0 (pc' := 54) (as := [_]) (ci := 2)  rfl dX7_kinds_51 rfl ok_X2_areSo ml_X7_231 im_X2_areSo se_X2_areSo rfl (Nat.le_of_ble_eq_true rfl) rfl (Nat.le_of_ble_eq_true rfl) (by first | assumption | exact ⟨by omega, by omega, rfl⟩) (t_areSo hC hR15 (by omega) uR uO) (fun r_51 ρ_51 h_51 q_51 g_51 e_51 => ?_)
      obtain ⟨rfl, w1, w2⟩ := q_51
      unfold am_tf at w2
      rw [cl_so hG hO uf u0 u1 u3 u2] at w2
      have wf : am_fr [15, 16, 17, 18] h h_51 := am_fr_trans uf (am_fr_sub w1 (by intro x hx; simp at hx ⊢; omega))
      rcases w2 with ⟨rfl, wA⟩ | ⟨rfl, wA⟩
      · refine am_if_eq (pc' := 57) (tgt := 63) dX7_kinds_54 rfl rfl (fun c_54 => ?_) (fun c_54 => ?_)
        · first | (exfalso; omega) | exact K63 S _ (by omega) wf (st_skip hS wA)
        · first | (exfalso; omega) | exact K57 _ (by omega) wf wA
      · refine am_if_eq (pc' := 57) (tgt := 63) dX7_kinds_54 rfl rfl (fun c_54 => ?_) (fun c_54 => ?_)
        · first | (exfalso; omega) | exact K63 S _ (by omega) wf (st_skip hS wA)
        · first | (exfalso; omega) | exact K57 _ (by omega) wf wA
theorem t_kinds {ρ h : am_H} {p : Int} (hC : am_LC ρ) (hG : cl_R h) (hO : rd_OK h (h 11 1)) : am_CT mX7_kinds 0 0 [am_R 1, am_I p] ρ h (fun r ρ' h' => ρ' = ρ ∧ am_fr [15, 16, 17, 18] h h' ∧ ((¬ (0 ≤ p ∧ p < h 11 1) ∧ r = some (am_I (-1))) ∨ ((0 ≤ p ∧ p < h 11 1) ∧ ∃ S, r = some (am_I S) ∧ st_is 3 (fun k => o_so h (mt_up (h 12) p k) (h 13)) S))) := by
  have hn58 := hC.1
  have hR := am_RA11 hC
  have e1 := am_lc hC 1 1 11 (by decide)
  refine am_ct (ls := [some (am_R 1), some (am_I p), none, none]) ok_X7_kinds rfl (fun _ => Nat.le_of_ble_eq_true rfl) (fun _ => rfl) (by intro v hv; simpa using hv) ?_
  refine am_aload_n (pc' := 1) dX7_kinds_0 rfl rfl rfl ?_
  refine am_getRk (ki := 1) (pc' := 4) (k := 1) (ci := 6) rfl dX7_kinds_1 rfl fl_X7_21 (by first | assumption | exact ⟨by omega, by omega, rfl⟩) rfl (by assumption) (by omega) ?_
  refine am_iload_n (pc' := 5) dX7_kinds_4 rfl rfl rfl ?_
  refine am_callVp (pc' := 8) (as := [_]) (ci := 3)  rfl dX7_kinds_5 rfl ok_X3_has ml_X7_98 im_X3_has se_X3_has rfl (Nat.le_of_ble_eq_true rfl) rfl (Nat.le_of_ble_eq_true rfl) (by first | assumption | exact ⟨by omega, by omega, rfl⟩) (t_has hR) ?_
  refine am_if_ne (pc' := 11) (tgt := 13) dX7_kinds_8 rfl rfl (fun c_8 => ?_) (fun c_8 => ?_)
  · simp only [am_z0, am_z1, ne_eq] at c_8
    refine am_iconst (pc' := 14) dX7_kinds_13 rfl rfl ?_
    refine am_istore_n (pc' := 15) (ls' := [_, _, _, _]) dX7_kinds_14 rfl rfl (Nat.le_of_ble_eq_true rfl) rfl rfl ?_
    refine am_iconst (pc' := 16) dX7_kinds_15 rfl rfl ?_
    refine am_istore_n (pc' := 17) (ls' := [_, _, _, _]) dX7_kinds_16 rfl rfl (Nat.le_of_ble_eq_true rfl) rfl rfl ?_
    exact t_kinds_l hC (cl_RO hG (by omega)).1 hO (by omega) (fun h1 S a b => ⟨rfl, a, Or.inr ⟨by omega, S, rfl, b⟩⟩) 4 0 0 h (by omega) (by omega) (by omega) am_fr_refl (st_0 _)
  · simp only [am_z0, am_z1, ne_eq] at c_8
    refine am_iconst (pc' := 12) dX7_kinds_11 rfl rfl ?_
    refine am_reti dX7_kinds_12 rfl ?_
    exact ⟨rfl, am_fr_refl, Or.inl ⟨by omega, rfl⟩⟩
theorem t_firsts_l {ρ h : am_H} {p : Int} {Q : am_Q} (hC : am_LC ρ) (hG : am_RO h 11) (hO : rd_OK h (h 11 1)) (hp : 0 ≤ p ∧ p < h 11 1) (hq : ∀ h1 S, am_fr [15, 16, 17, 18] h h1 → st_is (h 11 0) (fun k => o_so h (h 12) (mt_up (h 13) p k)) S → Q (some (am_I S)) ρ h1) :
    ∀ (n : Nat) (k S : Int) (h1 : am_H), (h 11 0 - k).toNat < n → 0 ≤ k → k ≤ h 11 0 → am_fr [15, 16, 17, 18] h h1 → st_is k (fun k => o_so h (h 12) (mt_up (h 13) p k)) S → am_WP mX7_firsts 0 0 17 [some (am_R 1), some (am_I p), some (am_I S), some (am_I k)] [] ρ h1 Q := by
  have hn58 := hC.1
  have hR := am_RA11 hC
  have hR15 := am_RA15 hC
  have e1 := am_lc hC 1 1 11 (by decide)
  have e2 := am_lc hC 1 2 15 (by decide)
  have e3 := am_lc hC 1 5 33 (by decide)
  have e4 := am_lc hC 15 3 17 (by decide)
  have e5 := am_lc hC 17 (-1) 5 (by decide)
  obtain ⟨o1, o2, o3, o4, o5⟩ := id hG
  intro n
  induction n with
  | zero => intro k S h1 hk; omega
  | succ n ih =>
    intro k S h1 hk h0 h9 hf hS
    have hSb := st_lt hS (by omega)
    have gB : h1 11 0 = h 11 0 := hf 11 0 (by simp <;> omega)
    have K69 : ∀ S' h2, k < h 11 0 → am_fr [15, 16, 17, 18] h h2 → st_is (k + 1) (fun k => o_so h (h 12) (mt_up (h 13) p k)) S' → am_WP mX7_firsts 0 0 69 [some (am_R 1), some (am_I p), some (am_I S'), some (am_I k)] [] ρ h2 Q := by
      intro S' h2 hk3 hf2 hS2
      refine am_iinc (pc' := 72) (ls' := [_, _, _, _]) dX7_firsts_69 rfl rfl ⟨by omega, by omega⟩ (Nat.le_of_ble_eq_true rfl) rfl rfl ?_
      refine am_goto (pc' := 17) dX7_firsts_72 rfl ?_
      exact ih _ _ _ (by omega) (by omega) (by omega) hf2 hS2
    have K63 : ∀ h2, k < h 11 0 → am_fr [15, 16, 17, 18] h h2 → o_so h (h 12) (mt_up (h 13) p k) → am_WP mX7_firsts 0 0 63 [some (am_R 1), some (am_I p), some (am_I S), some (am_I k)] [] ρ h2 Q := by
      intro h2 hk3 hf2 hA
      have h2p : (2 : Nat) ^ k.toNat ≤ 32 := two5 (by omega)
      refine am_iload_n (pc' := 64) dX7_firsts_63 rfl rfl rfl ?_
      refine am_iconst (pc' := 65) dX7_firsts_64 rfl rfl ?_
      refine am_iload_n (pc' := 66) dX7_firsts_65 rfl rfl rfl ?_
      refine am_ishl1 (pc' := 67) dX7_firsts_66 rfl (by omega) (by omega) ?_
      refine am_ior (pc' := 68) dX7_firsts_67 rfl ⟨by omega, by omega⟩ ⟨Int.natCast_nonneg _, by omega⟩ ?_
      refine am_istore_n (pc' := 69) (ls' := [_, _, _, _]) dX7_firsts_68 rfl rfl (Nat.le_of_ble_eq_true rfl) rfl rfl ?_
      exact K69 _ h2 hk3 hf2 (st_add hS h0 hA)
    refine am_iload_n (pc' := 18) dX7_firsts_17 rfl rfl rfl ?_
    refine am_aload_n (pc' := 19) dX7_firsts_18 rfl rfl rfl ?_
    refine am_getRk (ki := 1) (pc' := 22) (k := 1) (ci := 6) rfl dX7_firsts_19 rfl fl_X7_21 (by first | assumption | exact ⟨by omega, by omega, rfl⟩) rfl (by assumption) (by omega) ?_
    refine am_getIk (ki := 0) (pc' := 25) (k := 0) (ci := 3) rfl dX7_firsts_22 rfl fl_X7_235 (by first | assumption | exact ⟨by omega, by omega, rfl⟩) rfl ?_
    refine am_icmp_ge (pc' := 28) (tgt := 75) dX7_firsts_25 rfl rfl (fun c_25 => ?_) (fun c_25 => ?_)
    · refine am_iload_n (pc' := 76) dX7_firsts_75 rfl rfl rfl ?_
      refine am_reti dX7_firsts_76 rfl ?_
      exact hq h1 S hf (by rw [show h 11 0 = k by omega]; exact hS)
    · refine am_aload_n (pc' := 29) dX7_firsts_28 rfl rfl rfl ?_
      refine am_getRk (ki := 2) (pc' := 32) (k := 2) (ci := 6) rfl dX7_firsts_29 rfl fl_X7_25 (by first | assumption | exact ⟨by omega, by omega, rfl⟩) rfl (by assumption) (by omega) ?_
      refine am_aload_n (pc' := 33) dX7_firsts_32 rfl rfl rfl ?_
      refine am_getRk (ki := 1) (pc' := 36) (k := 1) (ci := 6) rfl dX7_firsts_33 rfl fl_X7_21 (by first | assumption | exact ⟨by omega, by omega, rfl⟩) rfl (by assumption) (by omega) ?_
      refine am_callV0 (pc' := 39) (as := [_]) (ci := 3)  rfl dX7_firsts_36 rfl ok_X3_takeAll ml_X7_150 im_X3_takeAll se_X3_takeAll rfl (Nat.le_of_ble_eq_true rfl) rfl (Nat.le_of_ble_eq_true rfl) (by first | assumption | exact ⟨by omega, by omega, rfl⟩) (t_takeAll hR15 hR (by omega)) (fun r_36 ρ_36 h_36 q_36 g_36 e_36 => ?_)
      obtain ⟨rfl, rfl, q1, q2, q3, q4, q5⟩ := q_36
      obtain ⟨g1, g2, g3, g4, g5, g6⟩ := cl_tr hG hO hf q1 q2 q3 q4 q5
      refine am_aload_n (pc' := 40) dX7_firsts_39 rfl rfl rfl ?_
      refine am_getRk (ki := 2) (pc' := 43) (k := 2) (ci := 6) rfl dX7_firsts_40 rfl fl_X7_25 (by first | assumption | exact ⟨by omega, by omega, rfl⟩) rfl (by assumption) (by omega) ?_
      refine am_getRk (ki := 3) (pc' := 46) (k := 3) (ci := 3) rfl dX7_firsts_43 rfl fl_X7_105 (by first | assumption | exact ⟨by omega, by omega, rfl⟩) rfl (by assumption) (by omega) ?_
      refine am_iload_n (pc' := 47) dX7_firsts_46 rfl rfl rfl ?_
      refine am_iload_n (pc' := 48) dX7_firsts_47 rfl rfl rfl ?_
      refine am_iastore (pc' := 49) dX7_firsts_48 rfl (by first | assumption | exact ⟨by omega, by omega, rfl⟩) (by omega) (by omega) ?_
      have u0 : am_u h_36 17 p k 15 0 = h 11 0 := by rw [am_u_n (by omega), g2]
      have u1 : am_u h_36 17 p k 15 1 = h 11 1 := by rw [am_u_n (by omega), g3]
      have uf : am_fr [15, 16, 17, 18] h (am_u h_36 17 p k) := am_fr_u g1 (by simp <;> omega)
      have u3 : mt_eq (h 11 1) (am_u h_36 17 p k (15 + 1)) (h 12) := fun q a b => by
        rw [am_u_n (by omega)]; exact g4 q a (by omega)
      have u2 : mt_eq (h 11 1) (am_u h_36 17 p k (15 + 2)) (mt_up (h 13) p k) := fun q a b => by
        show am_u h_36 17 p k 17 q = _
        rw [am_u_if]; unfold mt_up
        split
        · rfl
        · exact g5 q a (by omega)
      have uR : am_RO (am_u h_36 17 p k) 15 := ⟨by omega, by omega, by omega, by omega, fun q a b => by rw [u1] at b; rw [u2 q a b, u0]; unfold mt_up; split <;> first | omega | exact o5 q a b⟩
      have uO : rd_OK (am_u h_36 17 p k) (am_u h_36 17 p k 15 1) := by
        rw [u1]; unfold rd_OK at g6 ⊢
        rw [am_u_n (by omega), show am_u h_36 17 p k 34 = h_36 34 from funext fun _ => am_u_n (by omega), show am_u h_36 17 p k 35 = h_36 35 from funext fun _ => am_u_n (by omega)]
        exact g6
      refine am_aload_n (pc' := 50) dX7_firsts_49 rfl rfl rfl ?_
      refine am_getRk (ki := 5) (pc' := 53) (k := 5) (ci := 6) rfl dX7_firsts_50 rfl fl_X7_45 (by first | assumption | exact ⟨by omega, by omega, rfl⟩) rfl (by assumption) (by omega) ?_
      refine am_aload_n (pc' := 54) dX7_firsts_53 rfl rfl rfl ?_
      refine am_getRk (ki := 2) (pc' := 57) (k := 2) (ci := 6) rfl dX7_firsts_54 rfl fl_X7_25 (by first | assumption | exact ⟨by omega, by omega, rfl⟩) rfl (by assumption) (by omega) ?_
      refine am_callV0 (pc' := 60) (as := [_]) (ci := 2)  rfl dX7_firsts_57 rfl ok_X2_areSo ml_X7_231 im_X2_areSo se_X2_areSo rfl (Nat.le_of_ble_eq_true rfl) rfl (Nat.le_of_ble_eq_true rfl) (by first | assumption | exact ⟨by omega, by omega, rfl⟩) (t_areSo hC hR15 (by omega) uR uO) (fun r_57 ρ_57 h_57 q_57 g_57 e_57 => ?_)
      obtain ⟨rfl, w1, w2⟩ := q_57
      unfold am_tf at w2
      rw [cl_so hG hO uf u0 u1 u3 u2] at w2
      have wf : am_fr [15, 16, 17, 18] h h_57 := am_fr_trans uf (am_fr_sub w1 (by intro x hx; simp at hx ⊢; omega))
      rcases w2 with ⟨rfl, wA⟩ | ⟨rfl, wA⟩
      · refine am_if_eq (pc' := 63) (tgt := 69) dX7_firsts_60 rfl rfl (fun c_60 => ?_) (fun c_60 => ?_)
        · first | (exfalso; omega) | exact K69 S _ (by omega) wf (st_skip hS wA)
        · first | (exfalso; omega) | exact K63 _ (by omega) wf wA
      · refine am_if_eq (pc' := 63) (tgt := 69) dX7_firsts_60 rfl rfl (fun c_60 => ?_) (fun c_60 => ?_)
        · first | (exfalso; omega) | exact K69 S _ (by omega) wf (st_skip hS wA)
        · first | (exfalso; omega) | exact K63 _ (by omega) wf wA
theorem t_firsts {ρ h : am_H} {p : Int} (hC : am_LC ρ) (hG : cl_R h) (hO : rd_OK h (h 11 1)) : am_CT mX7_firsts 0 0 [am_R 1, am_I p] ρ h (fun r ρ' h' => ρ' = ρ ∧ am_fr [15, 16, 17, 18] h h' ∧ ((¬ (0 ≤ p ∧ p < h 11 1) ∧ r = some (am_I (-1))) ∨ ((0 ≤ p ∧ p < h 11 1) ∧ ∃ S, r = some (am_I S) ∧ st_is (h 11 0) (fun k => o_so h (h 12) (mt_up (h 13) p k)) S))) := by
  have hn58 := hC.1
  have hR := am_RA11 hC
  have e1 := am_lc hC 1 1 11 (by decide)
  refine am_ct (ls := [some (am_R 1), some (am_I p), none, none]) ok_X7_firsts rfl (fun _ => Nat.le_of_ble_eq_true rfl) (fun _ => rfl) (by intro v hv; simpa using hv) ?_
  refine am_aload_n (pc' := 1) dX7_firsts_0 rfl rfl rfl ?_
  refine am_getRk (ki := 1) (pc' := 4) (k := 1) (ci := 6) rfl dX7_firsts_1 rfl fl_X7_21 (by first | assumption | exact ⟨by omega, by omega, rfl⟩) rfl (by assumption) (by omega) ?_
  refine am_iload_n (pc' := 5) dX7_firsts_4 rfl rfl rfl ?_
  refine am_callVp (pc' := 8) (as := [_]) (ci := 3)  rfl dX7_firsts_5 rfl ok_X3_has ml_X7_98 im_X3_has se_X3_has rfl (Nat.le_of_ble_eq_true rfl) rfl (Nat.le_of_ble_eq_true rfl) (by first | assumption | exact ⟨by omega, by omega, rfl⟩) (t_has hR) ?_
  refine am_if_ne (pc' := 11) (tgt := 13) dX7_firsts_8 rfl rfl (fun c_8 => ?_) (fun c_8 => ?_)
  · simp only [am_z0, am_z1, ne_eq] at c_8
    refine am_iconst (pc' := 14) dX7_firsts_13 rfl rfl ?_
    refine am_istore_n (pc' := 15) (ls' := [_, _, _, _]) dX7_firsts_14 rfl rfl (Nat.le_of_ble_eq_true rfl) rfl rfl ?_
    refine am_iconst (pc' := 16) dX7_firsts_15 rfl rfl ?_
    refine am_istore_n (pc' := 17) (ls' := [_, _, _, _]) dX7_firsts_16 rfl rfl (Nat.le_of_ble_eq_true rfl) rfl rfl ?_
    exact t_firsts_l hC (cl_RO hG (by omega)).1 hO (by omega) (fun h1 S a b => ⟨rfl, a, Or.inr ⟨by omega, S, rfl, b⟩⟩) ((h 11 0).toNat + 1) 0 0 h (by omega) (by omega) (by have z := (cl_RO hG (show h 11 1 ≠ 0 by omega)).1.2.2.1; omega) am_fr_refl (st_0 _)
  · simp only [am_z0, am_z1, ne_eq] at c_8
    refine am_iconst (pc' := 12) dX7_firsts_11 rfl rfl ?_
    refine am_reti dX7_firsts_12 rfl ?_
    exact ⟨rfl, am_fr_refl, Or.inl ⟨by omega, rfl⟩⟩
