/-- what AllRows holds, once it is worked out -/
def ar_C (h : am_H) (A L P B : Int) (kd : Int → Int) : Prop :=
  (h 20 0 = B ∧ h 20 1 = P ∧ h 19 7 = mt_pw B P.toNat ∧ h 19 7 ≤ L) ∧ (∀ c, 0 ≤ c → c < h 19 7 → h A c = nxt P B kd c) ∧ (∀ c, 0 ≤ c → c < h 19 7 → gr_tl (nxt P B kd) c (h (A + 4) c) ∧ gr_rt (nxt P B kd) c (h (A + 3) c)) ∧
  h 19 8 = gr_stay (nxt P B kd) (h 19 7).toNat ∧ h 19 9 = mt_sum (fun c => if mt_sum (fun d => if nxt P B kd d = c then 1 else 0) (h 19 7).toNat = 0 then 1 else 0) (h 19 7).toNat ∧ h 19 10 = gr_outs (nxt P B kd) (h 19 7).toNat ∧ h 19 11 = gr_rounds (nxt P B kd) (h 19 7).toNat ∧ gr_lg (h (A + 4)) (h 19 7) (h 19 12) (h 19 13)
theorem t_workOut_t {ρ h : am_H} {A L : Int} {v : Option am_V} {Q : am_Q} (hC : am_LC ρ) (hD : am_DA ρ A L) (hO : ar_OK h L) (hq : ∀ h1, am_fr [19, 22, A, A + 1, A + 2, A + 3, A + 4] h h1 → ar_C h1 A L (h 20 1) (h 20 0) (h 21) → Q none ρ h1) : am_WP mX0_workOut 0 0 61 [some (am_R 19), some (am_R 11), v] [] ρ h Q := by
  obtain ⟨k0, k1, k2, k3, k4, k5, ⟨e1, e2, e3, e4, e5⟩, ⟨l1, l2, l3, l4, l5⟩, hA, hL0, hL7⟩ := am_DAx hD
  have hn58 := hC.1
  have hN := ar_N hO
  have hin := ar_in hO
  obtain ⟨o1, o2, o3, o4⟩ := id hO
  have h00 : ar_nx h 0 = 0 := nxt_0 o2.1
  refine am_aload_n (pc' := 62) dX0_workOut_61 rfl rfl rfl ?_
  refine am_callV0 (pc' := 65) (as := []) (ci := 0)  rfl dX0_workOut_62 rfl ok_X0_findNext ml_X0_76 im_X0_findNext se_X0_findNext rfl (Nat.le_of_ble_eq_true rfl) rfl (Nat.le_of_ble_eq_true rfl) (by first | assumption | exact ⟨by omega, by omega, rfl⟩) (t_findNext hC hD hO) (fun r_62 ρ_62 h_62 q_62 g_62 e_62 => ?_)
  obtain ⟨rfl, rfl, f1, f2, f3⟩ := q_62
  have n2 : h_62 19 7 = h 19 7 := f1 19 7 (by simp <;> omega)
  refine am_aload_n (pc' := 66) dX0_workOut_65 rfl rfl rfl ?_
  refine am_callV0 (pc' := 69) (as := []) (ci := 0)  rfl dX0_workOut_66 rfl ok_X0_orderThoseThatDoNotComeBack ml_X0_79 im_X0_orderThoseThatDoNotComeBack se_X0_orderThoseThatDoNotComeBack rfl (Nat.le_of_ble_eq_true rfl) rfl (Nat.le_of_ble_eq_true rfl) (by first | assumption | exact ⟨by omega, by omega, rfl⟩) (t_order (nx := ar_nx h) hC hD (by rw [n2]; omega) (by rw [n2]; exact hin) (fun c z0 z1 => f2 c z0 (by omega)) (fun c z0 z1 => by rw [n2]; exact f3 c z0 (by omega))) (fun r_66 ρ_66 h_66 q_66 g_66 e_66 => ?_)
  obtain ⟨rfl, rfl, p1, p2, p3, p4⟩ := q_66
  rw [n2] at p3 p4
  have n3 : h_66 19 7 = h 19 7 := by rw [p2 7 (by decide) (by decide), n2]
  have a3 : ∀ c, 0 ≤ c → c < h 19 7 → h_66 A c = ar_nx h c := fun c z0 z1 => by rw [p1 A c (by simp <;> omega)]; exact f2 c z0 z1
  refine am_aload_n (pc' := 70) dX0_workOut_69 rfl rfl rfl ?_
  refine am_callV0 (pc' := 73) (as := []) (ci := 0)  rfl dX0_workOut_70 rfl ok_X0_findRounds ml_X0_82 im_X0_findRounds se_X0_findRounds rfl (Nat.le_of_ble_eq_true rfl) rfl (Nat.le_of_ble_eq_true rfl) (by first | assumption | exact ⟨by omega, by omega, rfl⟩) (t_findRounds (nx := ar_nx h) hC hD (by rw [n3]; omega) (by rw [n3]; exact hin) (fun c z0 z1 => a3 c z0 (by omega)) (fun c z0 z1 => (pr_end p4 hin).1 c z0 (by omega))) (fun r_70 ρ_70 h_70 q_70 g_70 e_70 => ?_)
  obtain ⟨rfl, rfl, r1, r2, r3, r4⟩ := q_70
  rw [n3] at r3 r4
  have n4 : h_70 19 7 = h 19 7 := by rw [r2 7 (by decide), n3]
  have a4 : ∀ c, 0 ≤ c → c < h 19 7 → h_70 A c = ar_nx h c := fun c z0 z1 => by rw [r1 A c (by simp <;> omega)]; exact a3 c z0 z1
  have b4 : h_70 (A + 2) = h_66 (A + 2) := funext fun k => r1 (A + 2) k (by simp <;> omega)
  have c4 : h_70 19 6 = h_66 19 6 := r2 6 (by decide)
  refine am_aload_n (pc' := 74) dX0_workOut_73 rfl rfl rfl ?_
  refine am_callV0 (pc' := 77) (as := []) (ci := 0)  rfl dX0_workOut_74 rfl ok_X0_findTails ml_X0_85 im_X0_findTails se_X0_findTails rfl (Nat.le_of_ble_eq_true rfl) rfl (Nat.le_of_ble_eq_true rfl) (by first | assumption | exact ⟨by omega, by omega, rfl⟩) (t_findTails (nx := ar_nx h) hC hD (by rw [n4]; omega) (by rw [n4]; exact hin) (fun c z0 z1 => a4 c z0 (by omega)) (h_66 (A + 1)) (by rw [n4, b4, c4]; exact p4) (fun c z0 z1 => r4 c z0 (by omega))) (fun r_74 ρ_74 h_74 q_74 g_74 e_74 => ?_)
  obtain ⟨rfl, rfl, s1, s2⟩ := q_74
  rw [n4] at s2
  have n5 : h_74 19 7 = h 19 7 := by rw [s1 19 7 (by simp <;> omega), n4]
  have a5 : ∀ c, 0 ≤ c → c < h 19 7 → h_74 A c = ar_nx h c := fun c z0 z1 => by rw [s1 A c (by simp <;> omega)]; exact a4 c z0 z1
  refine am_aload_n (pc' := 78) dX0_workOut_77 rfl rfl rfl ?_
  refine am_callV0 (pc' := 81) (as := []) (ci := 0)  rfl dX0_workOut_78 rfl ok_X0_sumUp ml_X0_88 im_X0_sumUp se_X0_sumUp rfl (Nat.le_of_ble_eq_true rfl) rfl (Nat.le_of_ble_eq_true rfl) (by first | assumption | exact ⟨by omega, by omega, rfl⟩) (t_sumUp (nx := ar_nx h) hC hD (by rw [n5]; omega) (by rw [n5]; exact hin) (fun c z0 z1 => a5 c z0 (by omega)) h00 (fun c z0 z1 => s2 c z0 (by omega))) (fun r_78 ρ_78 h_78 q_78 g_78 e_78 => ?_)
  obtain ⟨rfl, rfl, t1, t2, t3, t4, t5⟩ := q_78
  rw [n5] at t3 t4 t5
  have n6 : h_78 19 7 = h 19 7 := by rw [t2 7 (by decide) (by decide) (by decide) (by decide), n5]
  refine am_retv dX0_workOut_81 rfl ?_
  refine hq h_78 (fun x k hx => ?_) ⟨⟨?_, ?_, by rw [n6, o3], by omega⟩, fun c z0 z1 => ?_, fun c z0 z1 => ?_, by rw [n6]; exact t3, ?_, by rw [n6]; exact t4, ?_, ?_⟩
  · simp at hx
    rw [t1 x k (by simp <;> omega), s1 x k (by simp <;> omega), r1 x k (by simp <;> omega), p1 x k (by simp <;> omega), f1 x k (by simp <;> omega)]
  · rw [t1 20 0 (by simp <;> omega), s1 20 0 (by simp <;> omega), r1 20 0 (by simp <;> omega), p1 20 0 (by simp <;> omega), f1 20 0 (by simp <;> omega)]
  · rw [t1 20 1 (by simp <;> omega), s1 20 1 (by simp <;> omega), r1 20 1 (by simp <;> omega), p1 20 1 (by simp <;> omega), f1 20 1 (by simp <;> omega)]
  · rw [t1 A c (by simp <;> omega)]; exact a5 c z0 (by omega)
  · rw [t1 (A + 4) c (by simp <;> omega), t1 (A + 3) c (by simp <;> omega)]; exact s2 c z0 (by omega)
  · rw [n6, t2 9 (by decide) (by decide) (by decide) (by decide), s1 19 9 (by simp <;> omega), r2 9 (by decide)]; exact p3
  · rw [n6, t2 11 (by decide) (by decide) (by decide) (by decide), s1 19 11 (by simp <;> omega)]; exact r3
  · rw [n6, show h_78 (A + 4) = h_74 (A + 4) from funext fun k => t1 (A + 4) k (by simp <;> omega)]; exact t5
/-- the room that it asks for -/
def wo_b (h : am_H) (L N : Int) (mc ms : Nat) : Prop := (0 < h 19 7 ∧ mc = 0 ∧ ms = 0) ∨ (h 19 7 = 0 ∧ N ≤ L ∧ mc = 0 ∧ ms = 0) ∨ (h 19 7 = 0 ∧ L < N ∧ mc = 5 ∧ ms = 0 + N.toNat + N.toNat + N.toNat + N.toNat + N.toNat)
theorem ar_C_eq {h : am_H} {A L P B : Int} {kd kd' : Int → Int} (hP : 2 ≤ P) (he : mt_eq P kd kd') (h1 : ar_C h A L P B kd) : ar_C h A L P B kd' := by
  have e : nxt P B kd = nxt P B kd' := funext fun c => nxt_eq hP he
  unfold ar_C at h1 ⊢
  rw [e] at h1
  exact h1
theorem am_LY_grow {ρ ρ' : am_H} {A L S K N : Int} (h : am_LY ρ A L S K) (h0 : ρ' 0 0 = ρ 0 0 + 5) (h1 : ∀ x j, 0 < x → x < ρ 0 0 → ¬ (x = 19 ∧ 1 ≤ j ∧ j ≤ 5) → ρ' x j = ρ x j) (h2 : am_DA ρ' (ρ 0 0) N) : am_LY ρ' (ρ 0 0) N S K := by
  obtain ⟨hC, hM, hD, hS, hd⟩ := h
  have hn := hC.1
  obtain ⟨s1, s2, s3, ⟨s4, s5, s6⟩, ⟨s7, s8, s9⟩, s10⟩ := hS
  refine ⟨⟨by omega, fun q hq => ?_⟩, ⟨by omega, fun q hq => ?_⟩, h2, ⟨⟨by omega, by omega, rfl⟩, s2, by omega, ⟨?_, ?_, ?_⟩, ⟨?_, ?_, ?_⟩, s10⟩, Or.inr s3⟩
  · rw [← hC.2 q hq]
    have : ∀ q ∈ am_layC, 0 < q.1 ∧ q.1 < 58 ∧ ¬ (q.1 = 19 ∧ 1 ≤ q.2.1 ∧ q.2.1 ≤ 5) := by decide
    have hz := this q hq
    exact h1 _ _ hz.1 (by omega) hz.2.2
  · rw [← hM.2 q hq]
    have : ∀ q ∈ am_layM, 0 < q.1 ∧ q.1 < 58 ∧ ¬ (q.1 = 19 ∧ 1 ≤ q.2.1 ∧ q.2.1 ≤ 5) := by decide
    have hz := this q hq
    exact h1 _ _ hz.1 (by omega) hz.2.2
  · rw [h1 29 0 (by omega) (by omega) (by omega), s4]
  · rw [h1 29 1 (by omega) (by omega) (by omega), s5]
  · rw [h1 29 2 (by omega) (by omega) (by omega), s6]
  · rw [h1 S _ (by omega) (by omega) (by omega), s7]
  · rw [h1 (S + 1) _ (by omega) (by omega) (by omega), s8]
  · rw [h1 (S + 2) _ (by omega) (by omega) (by omega), s9]
theorem t_workOut_l {ρ h : am_H} {Q : am_Q} {mc ms : Nat} (hC : am_LC ρ) (hO : (2 ≤ h 11 1 ∧ h 11 1 ≤ 5) ∧ 2 ≤ h 11 0 ∧ h 11 0 ≤ 6) (hD : am_in ρ 19 0) (K : ∀ h1 v, am_fr [19] h h1 → h1 19 7 = mt_pw (h 11 0) (h 11 1).toNat → am_WP mX0_workOut mc ms 57 [some (am_R 19), some (am_R 11), v] [] ρ h1 Q) :
    ∀ (n : Nat) (p : Int) (h1 : am_H), (h 11 1 - p).toNat < n → 0 ≤ p → p ≤ h 11 1 → am_fr [19] h h1 → h1 19 7 = mt_pw (h 11 0) p.toNat → am_WP mX0_workOut mc ms 30 [some (am_R 19), some (am_R 11), some (am_I p)] [] ρ h1 Q := by
  have hn58 := hC.1
  intro n
  induction n with
  | zero => intro p h1 hk; omega
  | succ n ih =>
    intro p h1 hk h0 h9 hf hc
    have g0 : h1 11 0 = h 11 0 := hf 11 0 (by simp <;> omega)
    have g1 : h1 11 1 = h 11 1 := hf 11 1 (by simp <;> omega)
    have hb := mt_pw_7776 hO.2.1 hO.2.2 p.toNat (by omega)
    have hb0 := mt_pw_pos hO.2.1 p.toNat
    have hb2 : mt_pw (h 11 0) p.toNat * h 11 0 ≤ mt_pw (h 11 0) p.toNat * 6 := Int.mul_le_mul_of_nonneg_left hO.2.2 (by omega)
    have hb3 : 0 ≤ mt_pw (h 11 0) p.toNat * h 11 0 := Int.mul_nonneg (by omega) (by omega)
    refine am_iload_n (pc' := 31) dX0_workOut_30 rfl rfl rfl ?_
    refine am_aload_n (pc' := 32) dX0_workOut_31 rfl rfl rfl ?_
    refine am_getIk (ki := 1) (pc' := 35) (k := 1) (ci := 3) rfl dX0_workOut_32 rfl fl_X0_67 (by first | assumption | exact ⟨by omega, by omega, rfl⟩) rfl ?_
    refine am_icmp_ge (pc' := 38) (tgt := 57) dX0_workOut_35 rfl rfl (fun c_35 => ?_) (fun c_35 => ?_)
    · have e9 : p.toNat = (h 11 1).toNat := by omega
      exact K h1 _ hf (by rw [hc, e9])
    · refine am_aload_n (pc' := 39) dX0_workOut_38 rfl rfl rfl ?_
      first | refine am_dupR (pc' := 40) dX0_workOut_39 rfl ?_ | refine am_dupI (pc' := 40) dX0_workOut_39 rfl ?_
      refine am_getIk (ki := 7) (pc' := 43) (k := 7) (ci := 0) rfl dX0_workOut_40 rfl fl_X0_38 (by first | assumption | exact ⟨by omega, by omega, rfl⟩) rfl ?_
      refine am_aload_n (pc' := 44) dX0_workOut_43 rfl rfl rfl ?_
      refine am_getIk (ki := 0) (pc' := 47) (k := 0) (ci := 3) rfl dX0_workOut_44 rfl fl_X0_70 (by first | assumption | exact ⟨by omega, by omega, rfl⟩) rfl ?_
      rw [hc, g0]
      refine am_imul (pc' := 48) dX0_workOut_47 rfl ⟨by omega, by omega⟩ ?_
      refine am_putIk (ki := 7) (pc' := 51) (k := 7) (ci := 0) rfl dX0_workOut_48 rfl fl_X0_38 (by first | assumption | exact ⟨by omega, by omega, rfl⟩) rfl (fun _ _ _ e => by cases e; rfl) ?_
      refine am_iinc (pc' := 54) (ls' := [_, _, _]) dX0_workOut_51 rfl rfl ⟨by omega, by omega⟩ (Nat.le_of_ble_eq_true rfl) rfl rfl ?_
      refine am_goto (pc' := 30) dX0_workOut_54 rfl ?_
      exact ih _ _ (by omega) (by omega) (by omega) (am_fr_u hf (by simp <;> omega)) (by rw [am_u_s, show (p + 1).toNat = p.toNat + 1 by omega]; rfl)
theorem t_workOut {ρ h : am_H} {A L S K : Int} {mc ms : Nat} (hY : am_LY ρ A L S K) (hO : (2 ≤ h 11 1 ∧ h 11 1 ≤ 5) ∧ 2 ≤ h 11 0 ∧ h 11 0 ≤ 6) (hI : h 19 7 = 0 ∨ ar_C h A L (h 11 1) (h 11 0) (h 12)) (hb : wo_b h L (mt_pw (h 11 0) (h 11 1).toNat) mc ms) :
    am_CT mX0_workOut mc ms [am_R 19, am_R 11] ρ h (fun v ρ' h' => v = none ∧ ∃ A' L', am_LY ρ' A' L' S K ∧ ar_C h' A' L' (h 11 1) (h 11 0) (h 12) ∧ (∀ x j, x < ρ 0 0 → ¬ (19 ≤ x ∧ x ≤ 22) → ¬ (A ≤ x ∧ x ≤ A + 4) → h' x j = h x j) ∧ ((A' = A ∧ L' = L ∧ mc = 0 ∧ ms = 0) ∨ (L < L' ∧ L' = mt_pw (h 11 0) (h 11 1).toNat ∧ mc = 5 ∧ ms = 0 + L'.toNat + L'.toNat + L'.toNat + L'.toNat + L'.toNat))) := by
  obtain ⟨hC, hM, hD, hS, hdis⟩ := id hY
  obtain ⟨k0, k1, k2, k3, k4, k5, ⟨e1, e2, e3, e4, e5⟩, ⟨l1, l2, l3, l4, l5⟩, hA, hL0, hL7⟩ := am_DAx hD
  have hn58 := hC.1
  have hR := am_RA11 hC
  have hR20 := am_RA20 hC
  have ep := am_lc hC 19 0 20 (by decide)
  have hp0 := mt_pw_pos hO.2.1 (h 11 1).toNat
  have hp7 := mt_pw_7776 hO.2.1 hO.2.2 (h 11 1).toNat (by omega)
  refine am_ct (ls := [some (am_R 19), some (am_R 11), none]) ok_X0_workOut rfl (fun _ => Nat.le_of_ble_eq_true rfl) (fun _ => rfl) (by intro v hv; simpa using hv) ?_
  have K57 : h 19 7 = 0 → ∀ h1 v, (∀ x j, ¬ (19 ≤ x ∧ x ≤ 21) → h1 x j = h x j) → h1 20 0 = h 11 0 → h1 20 1 = h 11 1 → (∀ p, 0 ≤ p → p < 5 → h1 21 p = h 12 p) → h1 19 7 = mt_pw (h 11 0) (h 11 1).toNat → am_WP mX0_workOut mc ms 57 [some (am_R 19), some (am_R 11), v] [] ρ h1 (fun v ρ' h' => v = none ∧ ∃ A' L', am_LY ρ' A' L' S K ∧ ar_C h' A' L' (h 11 1) (h 11 0) (h 12) ∧ (∀ x j, x < ρ 0 0 → ¬ (19 ≤ x ∧ x ≤ 22) → ¬ (A ≤ x ∧ x ≤ A + 4) → h' x j = h x j) ∧ ((A' = A ∧ L' = L ∧ mc = 0 ∧ ms = 0) ∨ (L < L' ∧ L' = mt_pw (h 11 0) (h 11 1).toNat ∧ mc = 5 ∧ ms = 0 + L'.toNat + L'.toNat + L'.toNat + L'.toNat + L'.toNat))) := by
    intro h70 h1 v f1 f2 f3 f4 f5
    rcases hb with ⟨z1, z2, z3⟩ | ⟨z1, z2, z3, z4⟩ | ⟨z1, z2, z3, z4⟩
    · omega
    · subst z3
      subst z4
      refine am_aload_n (pc' := 58) dX0_workOut_57 rfl rfl rfl ?_
      refine am_callV0 (pc' := 61) (as := []) (ci := 0)  rfl dX0_workOut_58 rfl ok_X0_makeRoom ml_X0_73 im_X0_makeRoom se_X0_makeRoom rfl (Nat.le_of_ble_eq_true rfl) rfl (Nat.le_of_ble_eq_true rfl) (by first | assumption | exact ⟨by omega, by omega, rfl⟩) (t_makeRoom0 hn58 hD (by omega)) (fun r_58 ρ_58 h_58 q_58 g_58 e_58 => ?_)
      obtain ⟨rfl, rfl, rfl⟩ := q_58
      refine t_workOut_t hC hD ⟨by omega, by omega, by rw [f2, f3, f5], by omega⟩ (fun h2 g1 g2 => ⟨rfl, A, L, hY, ?_, fun x j x0 x1 x2 => ?_, Or.inl ⟨rfl, rfl, rfl, rfl⟩⟩)
      · rw [f2, f3] at g2
        exact ar_C_eq hO.1.1 (fun p p0 p1 => f4 p p0 (by omega)) g2
      · rw [g1 x j (by simp <;> omega), f1 x j (by omega)]
    · subst z3
      subst z4
      have f1b : ∀ x j, ¬ (19 ≤ x ∧ x ≤ 22) → h1 x j = h x j := fun x j z => f1 x j (by omega)
      refine am_aload_n (pc' := 58) dX0_workOut_57 rfl rfl rfl ?_
      refine am_callVg (pc' := 61) (as := []) (ci := 0) (mc := 5) (bc := 0) (ms := 0 + (mt_pw (h 11 0) (h 11 1).toNat).toNat + (mt_pw (h 11 0) (h 11 1).toNat).toNat + (mt_pw (h 11 0) (h 11 1).toNat).toNat + (mt_pw (h 11 0) (h 11 1).toNat).toNat + (mt_pw (h 11 0) (h 11 1).toNat).toNat) (bs := 0) rfl dX0_workOut_58 rfl ok_X0_makeRoom ml_X0_73 im_X0_makeRoom se_X0_makeRoom rfl (Nat.le_of_ble_eq_true rfl) rfl (Nat.le_of_ble_eq_true rfl) (by first | assumption | exact ⟨by omega, by omega, rfl⟩) (t_makeRoomG (N := mt_pw (h 11 0) (h 11 1).toNat) hn58 hD (by omega) (by omega) f5) (fun r_58 ρ_58 h_58 q_58 g_58 e_58 => ?_)
      obtain ⟨rfl, m1, m2, m3, m4⟩ := q_58
      have hY2 := am_LY_grow hY m2 m3 m4
      refine t_workOut_t hY2.1 m4 ⟨by rw [m1 20 1 (by omega)]; omega, by rw [m1 20 0 (by omega)]; omega, by rw [m1 19 7 (by omega), m1 20 0 (by omega), m1 20 1 (by omega), f2, f3, f5], by rw [m1 19 7 (by omega)]; omega⟩ (fun h2 g1 g2 => ⟨rfl, ρ 0 0, _, hY2, ?_, fun x j x0 x1 x2 => ?_, Or.inr ⟨z2, rfl, rfl, rfl⟩⟩)
      · rw [m1 20 0 (by omega), m1 20 1 (by omega), f2, f3] at g2
        exact ar_C_eq hO.1.1 (fun p p0 p1 => by rw [m1 21 p (by omega)]; exact f4 p p0 (by omega)) g2
      · rw [g1 x j (by simp <;> omega), m1 x j x0, f1 x j (by omega)]
  refine am_aload_n (pc' := 1) dX0_workOut_0 rfl rfl rfl ?_
  refine am_getIk (ki := 7) (pc' := 4) (k := 7) (ci := 0) rfl dX0_workOut_1 rfl fl_X0_38 (by first | assumption | exact ⟨by omega, by omega, rfl⟩) rfl ?_
  refine am_if_gt (pc' := 7) (tgt := 14) dX0_workOut_4 rfl rfl (fun c_4 => ?_) (fun c_4 => ?_)
  · refine am_retv dX0_workOut_14 rfl ?_
    rcases hI with z | z
    · omega
    · rcases hb with ⟨y1, y2, y3⟩ | ⟨y1, y2⟩ | ⟨y1, y2⟩
      · exact ⟨rfl, A, L, hY, z, fun _ _ _ _ _ => rfl, Or.inl ⟨rfl, rfl, y2, y3⟩⟩
      · omega
      · omega
  · refine am_aload_n (pc' := 8) dX0_workOut_7 rfl rfl rfl ?_
    refine am_callVp (pc' := 11) (as := []) (ci := 3)  rfl dX0_workOut_8 rfl ok_X3_isNone ml_X0_59 im_X3_isNone se_X3_isNone rfl (Nat.le_of_ble_eq_true rfl) rfl (Nat.le_of_ble_eq_true rfl) (by first | assumption | exact ⟨by omega, by omega, rfl⟩) (t_isNone hR) ?_
    refine am_if_eq (pc' := 14) (tgt := 15) dX0_workOut_11 rfl rfl (fun c_11 => ?_) (fun c_11 => ?_)
    · simp only [am_z0, am_z1, ne_eq] at c_11
      have h70 : h 19 7 = 0 := by rcases hb with ⟨y1, y2, y3⟩ | ⟨y1, y2⟩ | ⟨y1, y2⟩ <;> omega
      refine am_aload_n (pc' := 16) dX0_workOut_15 rfl rfl rfl ?_
      refine am_getRk (ki := 0) (pc' := 19) (k := 0) (ci := 0) rfl dX0_workOut_16 rfl fl_X0_12 (by first | assumption | exact ⟨by omega, by omega, rfl⟩) rfl (by assumption) (by omega) ?_
      refine am_aload_n (pc' := 20) dX0_workOut_19 rfl rfl rfl ?_
      refine am_callV0 (pc' := 23) (as := [_]) (ci := 3)  rfl dX0_workOut_20 rfl ok_X3_takeKinds ml_X0_63 im_X3_takeKinds se_X3_takeKinds rfl (Nat.le_of_ble_eq_true rfl) rfl (Nat.le_of_ble_eq_true rfl) (by first | assumption | exact ⟨by omega, by omega, rfl⟩) (t_takeKinds hR20 hR (by omega)) (fun r_20 ρ_20 h_20 q_20 g_20 e_20 => ?_)
      obtain ⟨rfl, rfl, f1, f2, f3, f4⟩ := q_20
      refine am_aload_n (pc' := 24) dX0_workOut_23 rfl rfl rfl ?_
      refine am_iconst (pc' := 25) dX0_workOut_24 rfl rfl ?_
      refine am_putIk (ki := 7) (pc' := 28) (k := 7) (ci := 0) rfl dX0_workOut_25 rfl fl_X0_38 (by first | assumption | exact ⟨by omega, by omega, rfl⟩) rfl (fun _ _ _ e => by cases e; rfl) ?_
      refine am_iconst (pc' := 29) dX0_workOut_28 rfl rfl ?_
      refine am_istore_n (pc' := 30) (ls' := [_, _, _]) dX0_workOut_29 rfl rfl (Nat.le_of_ble_eq_true rfl) rfl rfl ?_
      refine t_workOut_l (h := am_u h_20 19 7 1) hC (by rw [am_u_n (by omega), am_u_n (by omega), f1 11 1 (by simp <;> omega), f1 11 0 (by simp <;> omega)]; exact hO) k0 (fun h1 v g1 g2 => K57 h70 h1 v (fun x j z => ?_) ?_ ?_ (fun p p0 p1 => ?_) ?_) ((h 11 1).toNat + 1) 0 _ (by rw [am_u_n (by omega), f1 11 1 (by simp <;> omega)]; omega) (by omega) (by rw [am_u_n (by omega), f1 11 1 (by simp <;> omega)]; omega) am_fr_refl (by rw [am_u_s]; rfl)
      · rw [g1 x j (by simp <;> omega), am_u_n (by omega), f1 x j (by simp <;> omega)]
      · rw [g1 20 0 (by simp <;> omega), am_u_n (by omega), f2]
      · rw [g1 20 1 (by simp <;> omega), am_u_n (by omega), f3]
      · rw [g1 21 p (by simp <;> omega), am_u_n (by omega)]; exact f4 p p0 p1
      · rw [g2, am_u_n (by omega), am_u_n (by omega), f1 11 1 (by simp <;> omega), f1 11 0 (by simp <;> omega)]
    · simp only [am_z0, am_z1, ne_eq] at c_11
      exfalso; omega
