/-! Spread: gone on, counted; the common divisor -/
theorem ar_C_fr {h h' : am_H} {A L P B : Int} {kd : Int → Int} (h1 : ∀ k, h' 19 k = h 19 k) (h2 : ∀ k, h' 20 k = h 20 k) (h3 : ∀ x k, A ≤ x → x ≤ A + 4 → h' x k = h x k) (hC : ar_C h A L P B kd) : ar_C h' A L P B kd := by
  have e3 : h' (A + 3) = h (A + 3) := funext fun k => h3 _ k (by omega) (by omega)
  have e4 : h' (A + 4) = h (A + 4) := funext fun k => h3 _ k (by omega) (by omega)
  have e0 : h' A = h A := funext fun k => h3 _ k (by omega) (by omega)
  unfold ar_C at hC ⊢
  rw [h2 0, h2 1, h1 7, h1 8, h1 9, h1 10, h1 11, h1 12, h1 13, e0, e3, e4]
  exact hC
theorem ar_Q_fr {ρ h h' : am_H} {A L P B : Int} {kd : Int → Int} (hQ : ar_Q ρ h A L P B kd) (h1 : ∀ k, h' 19 k = h 19 k) (h2 : ∀ k, h' 20 k = h 20 k) (h3 : ∀ x k, A ≤ x → x ≤ A + 4 → h' x k = h x k) : ar_Q ρ h' A L P B kd :=
  ⟨hQ.1, hQ.2.1, ar_C_fr h1 h2 h3 hQ.2.2.1, hQ.2.2.2⟩
theorem t_goTo_l {ρ h : am_H} {A L S K P B s : Int} {kd : Int → Int} {Q : am_Q} (hY : am_LY ρ A L S K) (hQ : ar_Q ρ h A L P B kd) (hK : h 19 7 ≤ K) (hs : 0 ≤ s ∧ s ≤ 1000000)
    (hq : ∀ h1, am_fr [29, S, S + 1, S + 2] h h1 → sp_P h1 S K → sp_V h1 S (h 19 7) (h1 29 3) (nxt P B kd) s.toNat → h1 29 4 = s → Q none ρ h1) :
    ∀ (n : Nat) (a : Int) (h1 : am_H), (s - a).toNat < n → 0 ≤ a → a ≤ s → am_fr [29, S, S + 1, S + 2] h h1 → sp_P h1 S K → sp_V h1 S (h 19 7) (h1 29 3) (nxt P B kd) a.toNat → am_WP mX5_goTo 0 0 27 [some (am_R 29), some (am_R 19), some (am_I s), some (am_I a)] [] ρ h1 Q := by
  obtain ⟨hC, hM, hD, hS, hdis⟩ := id hY
  obtain ⟨k0, k1, k2, k3, k4, k5, ⟨e1, e2, e3, e4, e5⟩, ⟨l1, l2, l3, l4, l5⟩, hA, hL0, hL7⟩ := am_DAx hD
  obtain ⟨s0, s1, s2, s3, ⟨f1, f2, f3⟩, ⟨m1, m2, m3⟩, hS9, hK0, hK7⟩ := am_DSx hS
  have hn58 := hC.1
  intro n
  induction n with
  | zero => intro a h1 hk; omega
  | succ n ih =>
    intro a h1 hk h0 h9 hf hp hV
    have g1 : h1 19 7 = h 19 7 := hf 19 7 (by simp <;> omega)
    have hQ1 : ar_Q ρ h1 A L P B kd := ar_Q_fr hQ (fun k => hf 19 k (by simp <;> omega)) (fun k => hf 20 k (by simp <;> omega)) (fun x k z0 z1 => hf x k (by simp <;> omega))
    refine am_iload_n (pc' := 28) dX5_goTo_27 rfl rfl rfl ?_
    refine am_iload_n (pc' := 29) dX5_goTo_28 rfl rfl rfl ?_
    refine am_icmp_ge (pc' := 32) (tgt := 43) dX5_goTo_29 rfl rfl (fun c_29 => ?_) (fun c_29 => ?_)
    · refine am_aload_n (pc' := 44) dX5_goTo_43 rfl rfl rfl ?_
      refine am_iload_n (pc' := 45) dX5_goTo_44 rfl rfl rfl ?_
      refine am_putIk (ki := 4) (pc' := 48) (k := 4) (ci := 5) rfl dX5_goTo_45 rfl fl_X5_25 (by first | assumption | exact ⟨by omega, by omega, rfl⟩) rfl (fun _ _ _ e => by cases e; rfl) ?_
      refine am_retv dX5_goTo_48 rfl ?_
      refine hq _ (am_fr_u hf (by simp <;> omega)) (sp_P_u hp (fun z => by omega)) ?_ (am_u_s _ _ _ _)
      have ea : a = s := by omega
      subst ea
      unfold sp_V at hV ⊢
      rw [show am_u h1 29 4 a S = h1 S from funext fun k => am_u_n (by omega), show am_u h1 29 4 a (S + 1) = h1 (S + 1) from funext fun k => am_u_n (by omega), show am_u h1 29 4 a 29 3 = h1 29 3 from am_u_n (by omega)]
      exact hV
    · refine am_aload_n (pc' := 33) dX5_goTo_32 rfl rfl rfl ?_
      refine am_aload_n (pc' := 34) dX5_goTo_33 rfl rfl rfl ?_
      refine am_callV0 (pc' := 37) (as := [_]) (ci := 5)  rfl dX5_goTo_34 rfl ok_X5_stepAll ml_X5_32 im_X5_stepAll se_X5_stepAll rfl (Nat.le_of_ble_eq_true rfl) rfl (Nat.le_of_ble_eq_true rfl) (by first | assumption | exact ⟨by omega, by omega, rfl⟩) (t_stepAll (h := h1) hQ1 hS hdis (by omega) hp (by rw [g1]; exact hV)) (fun r_34 ρ_34 h_34 q_34 g_34 e_34 => ?_)
      obtain ⟨rfl, rfl, q1, q2, q3, q4⟩ := q_34
      refine am_iinc (pc' := 40) (ls' := [_, _, _, _]) dX5_goTo_37 rfl rfl ⟨by omega, by omega⟩ (Nat.le_of_ble_eq_true rfl) rfl rfl ?_
      refine am_goto (pc' := 27) dX5_goTo_40 rfl ?_
      refine ih _ _ (by omega) (by omega) (by omega) (am_fr_trans hf q1) q3 ?_
      rw [g1] at q4
      rw [show (a + 1).toNat = a.toNat + 1 by omega]
      exact q4
def sp_b (h : am_H) (K N s : Int) (mc ms : Nat) : Prop := ((h 29 4 ≠ -9 ∧ h 29 4 ≤ s) ∧ mc = 0 ∧ ms = 0) ∨ ((h 29 4 = -9 ∨ s < h 29 4) ∧ N ≤ K ∧ mc = 0 ∧ ms = 0) ∨ ((h 29 4 = -9 ∨ s < h 29 4) ∧ K < N ∧ mc = 3 ∧ ms = 0 + N.toNat + N.toNat + N.toNat)
/-- what Spread keeps between calls -/
def sp_I (h : am_H) (S K N : Int) (nx : Int → Int) : Prop := sp_P h S K ∧ (h 29 4 = -9 ∨ (0 ≤ h 29 4 ∧ N ≤ K ∧ sp_V h S N (h 29 3) nx (h 29 4).toNat))
theorem t_goTo {ρ h : am_H} {A L S K P B s : Int} {kd : Int → Int} {mc ms : Nat} (hY : am_LY ρ A L S K) (hQ : ar_Q ρ h A L P B kd) (hI : sp_I h S K (h 19 7) (nxt P B kd)) (hs : 0 ≤ s ∧ s ≤ 1000000) (hb : sp_b h K (h 19 7) s mc ms) :
    am_CT mX5_goTo mc ms [am_R 29, am_R 19, am_I s] ρ h (fun v ρ' h' => v = none ∧ ∃ S' K', am_LY ρ' A L S' K' ∧ (∀ x j, x < ρ 0 0 → x ≠ 29 → ¬ (S ≤ x ∧ x ≤ S + 2) → h' x j = h x j) ∧ h 19 7 ≤ K' ∧ sp_P h' S' K' ∧ sp_V h' S' (h 19 7) (h' 29 3) (nxt P B kd) s.toNat ∧ h' 29 4 = s ∧ ((S' = S ∧ K' = K ∧ mc = 0 ∧ ms = 0) ∨ (K < K' ∧ K' = h 19 7 ∧ mc = 3 ∧ ms = 0 + K'.toNat + K'.toNat + K'.toNat))) := by
  have hN := ar_QN hQ
  obtain ⟨hC, hM, hD, hS, hdis⟩ := id hY
  obtain ⟨k0, k1, k2, k3, k4, k5, ⟨e1, e2, e3, e4, e5⟩, ⟨l1, l2, l3, l4, l5⟩, hA, hL0, hL7⟩ := am_DAx hD
  obtain ⟨s0, s1, s2, s3, ⟨f1, f2, f3⟩, ⟨m1, m2, m3⟩, hS9, hK0, hK7⟩ := am_DSx hS
  have hn58 := hC.1
  refine am_ct (ls := [some (am_R 29), some (am_R 19), some (am_I s), none]) ok_X5_goTo rfl (fun _ => Nat.le_of_ble_eq_true rfl) (fun _ => rfl) (by intro v hv; simpa using hv) ?_
  rcases hb with ⟨z1, rfl, rfl⟩ | ⟨z1, z2, rfl, rfl⟩ | ⟨z1, z2, rfl, rfl⟩
  · have hv : 0 ≤ h 29 4 ∧ h 19 7 ≤ K ∧ sp_V h S (h 19 7) (h 29 3) (nxt P B kd) (h 29 4).toNat := by
      rcases hI.2 with z | z
      · exact absurd z z1.1
      · exact z
    refine am_aload_n (pc' := 1) dX5_goTo_0 rfl rfl rfl ?_
    refine am_getIk (ki := 4) (pc' := 4) (k := 4) (ci := 5) rfl dX5_goTo_1 rfl fl_X5_25 (by first | assumption | exact ⟨by omega, by omega, rfl⟩) rfl ?_
    refine am_bipush (pc' := 6) dX5_goTo_4 rfl rfl (by decide) ?_
    refine am_icmp_eq (pc' := 9) (tgt := 17) dX5_goTo_6 rfl rfl (fun c_6 => ?_) (fun c_6 => ?_)
    · exfalso; omega
    · refine am_aload_n (pc' := 10) dX5_goTo_9 rfl rfl rfl ?_
      refine am_getIk (ki := 4) (pc' := 13) (k := 4) (ci := 5) rfl dX5_goTo_10 rfl fl_X5_25 (by first | assumption | exact ⟨by omega, by omega, rfl⟩) rfl ?_
      refine am_iload_n (pc' := 14) dX5_goTo_13 rfl rfl rfl ?_
      refine am_icmp_le (pc' := 17) (tgt := 22) dX5_goTo_14 rfl rfl (fun c_14 => ?_) (fun c_14 => ?_)
      · refine am_aload_n (pc' := 23) dX5_goTo_22 rfl rfl rfl ?_
        refine am_getIk (ki := 4) (pc' := 26) (k := 4) (ci := 5) rfl dX5_goTo_23 rfl fl_X5_25 (by first | assumption | exact ⟨by omega, by omega, rfl⟩) rfl ?_
        refine am_istore_n (pc' := 27) (ls' := [_, _, _, _]) dX5_goTo_26 rfl rfl (Nat.le_of_ble_eq_true rfl) rfl rfl ?_
        exact t_goTo_l hY hQ hv.2.1 hs (fun h1 a b c d => ⟨rfl, S, K, hY, fun x j x0 x1 x2 => a x j (by simp <;> omega), hv.2.1, b, c, d, Or.inl ⟨rfl, rfl, rfl, rfl⟩⟩) ((s - h 29 4).toNat + 1) _ h (by omega) hv.1 (by omega) am_fr_refl hI.1 hv.2.2
      · exfalso; omega
  · have K17 : am_WP mX5_goTo 0 0 17 [some (am_R 29), some (am_R 19), some (am_I s), none] [] ρ h (fun v ρ' h' => v = none ∧ ∃ S' K', am_LY ρ' A L S' K' ∧ (∀ x j, x < ρ 0 0 → x ≠ 29 → ¬ (S ≤ x ∧ x ≤ S + 2) → h' x j = h x j) ∧ h 19 7 ≤ K' ∧ sp_P h' S' K' ∧ sp_V h' S' (h 19 7) (h' 29 3) (nxt P B kd) s.toNat ∧ h' 29 4 = s ∧ ((S' = S ∧ K' = K ∧ 0 = 0 ∧ 0 = 0) ∨ (K < K' ∧ K' = h 19 7 ∧ 0 = 3 ∧ 0 = 0 + K'.toNat + K'.toNat + K'.toNat))) := by
      refine am_aload_n (pc' := 18) dX5_goTo_17 rfl rfl rfl ?_
      refine am_aload_n (pc' := 19) dX5_goTo_18 rfl rfl rfl ?_
      refine am_callV0 (pc' := 22) (as := [_]) (ci := 5)  rfl dX5_goTo_19 rfl ok_X5_begin ml_X5_28 im_X5_begin se_X5_begin rfl (Nat.le_of_ble_eq_true rfl) rfl (Nat.le_of_ble_eq_true rfl) (by first | assumption | exact ⟨by omega, by omega, rfl⟩) (t_begin0 (nx := nxt P B kd) hn58 hS ⟨hN.1, hN.2.1, z2⟩ rfl) (fun r_19 ρ_19 h_19 q_19 g_19 e_19 => ?_)
      obtain ⟨rfl, rfl, q1, q2, q3, q4⟩ := q_19
      refine am_aload_n (pc' := 23) dX5_goTo_22 rfl rfl rfl ?_
      refine am_getIk (ki := 4) (pc' := 26) (k := 4) (ci := 5) rfl dX5_goTo_23 rfl fl_X5_25 (by first | assumption | exact ⟨by omega, by omega, rfl⟩) rfl ?_
      refine am_istore_n (pc' := 27) (ls' := [_, _, _, _]) dX5_goTo_26 rfl rfl (Nat.le_of_ble_eq_true rfl) rfl rfl ?_
      rw [q4]
      exact t_goTo_l hY hQ z2 hs (fun h1 a b c d => ⟨rfl, S, K, hY, fun x j x0 x1 x2 => a x j (by simp <;> omega), z2, b, c, d, Or.inl ⟨rfl, rfl, rfl, rfl⟩⟩) (s.toNat + 1) 0 _ (by omega) (by omega) hs.1 (am_fr_sub q1 (by intro x hx; simp at hx ⊢; omega)) (fun k y0 y1 => by rw [q1 _ _ (by simp <;> omega)]; exact hI.1 k y0 y1) (by rw [q3]; exact q2)
    refine am_aload_n (pc' := 1) dX5_goTo_0 rfl rfl rfl ?_
    refine am_getIk (ki := 4) (pc' := 4) (k := 4) (ci := 5) rfl dX5_goTo_1 rfl fl_X5_25 (by first | assumption | exact ⟨by omega, by omega, rfl⟩) rfl ?_
    refine am_bipush (pc' := 6) dX5_goTo_4 rfl rfl (by decide) ?_
    refine am_icmp_eq (pc' := 9) (tgt := 17) dX5_goTo_6 rfl rfl (fun c_6 => ?_) (fun c_6 => ?_)
    · exact K17
    · refine am_aload_n (pc' := 10) dX5_goTo_9 rfl rfl rfl ?_
      refine am_getIk (ki := 4) (pc' := 13) (k := 4) (ci := 5) rfl dX5_goTo_10 rfl fl_X5_25 (by first | assumption | exact ⟨by omega, by omega, rfl⟩) rfl ?_
      refine am_iload_n (pc' := 14) dX5_goTo_13 rfl rfl rfl ?_
      refine am_icmp_le (pc' := 17) (tgt := 22) dX5_goTo_14 rfl rfl (fun c_14 => ?_) (fun c_14 => ?_)
      · exfalso; omega
      · exact K17
  · have K17 : am_WP mX5_goTo 3 (0 + (h 19 7).toNat + (h 19 7).toNat + (h 19 7).toNat) 17 [some (am_R 29), some (am_R 19), some (am_I s), none] [] ρ h (fun v ρ' h' => v = none ∧ ∃ S' K', am_LY ρ' A L S' K' ∧ (∀ x j, x < ρ 0 0 → x ≠ 29 → ¬ (S ≤ x ∧ x ≤ S + 2) → h' x j = h x j) ∧ h 19 7 ≤ K' ∧ sp_P h' S' K' ∧ sp_V h' S' (h 19 7) (h' 29 3) (nxt P B kd) s.toNat ∧ h' 29 4 = s ∧ ((S' = S ∧ K' = K ∧ 3 = 0 ∧ 0 + (h 19 7).toNat + (h 19 7).toNat + (h 19 7).toNat = 0) ∨ (K < K' ∧ K' = h 19 7 ∧ 3 = 3 ∧ 0 + (h 19 7).toNat + (h 19 7).toNat + (h 19 7).toNat = 0 + K'.toNat + K'.toNat + K'.toNat))) := by
      refine am_aload_n (pc' := 18) dX5_goTo_17 rfl rfl rfl ?_
      refine am_aload_n (pc' := 19) dX5_goTo_18 rfl rfl rfl ?_
      refine am_callVg (pc' := 22) (as := [_]) (ci := 5) (mc := 3) (bc := 0) (ms := 0 + (h 19 7).toNat + (h 19 7).toNat + (h 19 7).toNat) (bs := 0) rfl dX5_goTo_19 rfl ok_X5_begin ml_X5_28 im_X5_begin se_X5_begin rfl (Nat.le_of_ble_eq_true rfl) rfl (Nat.le_of_ble_eq_true rfl) (by first | assumption | exact ⟨by omega, by omega, rfl⟩) (t_beginG (nx := nxt P B kd) hn58 hS ⟨hN.1, hN.2.1, z2⟩ rfl) (fun r_19 ρ_19 h_19 q_19 g_19 e_19 => ?_)
      obtain ⟨rfl, q1, q2, q3, q4, q5, q6, q7, q8⟩ := q_19
      have hY2 := am_LY_growS hY q2 q3 q4
      have hQ2 : ar_Q ρ_19 h_19 A L P B kd := ⟨hY2.1, hY2.2.2.1, ar_C_fr (fun k => q1 19 k (by omega) (by omega)) (fun k => q1 20 k (by omega) (by omega)) (fun x k x0 x1 => q1 x k (by have := hD.2.2.1; omega) (by omega)) hQ.2.2.1, hQ.2.2.2⟩
      have g7 : h_19 19 7 = h 19 7 := q1 19 7 (by omega) (by omega)
      have i29 : am_in ρ_19 29 5 := ⟨by omega, by omega, rfl⟩
      refine am_aload_n (pc' := 23) dX5_goTo_22 rfl rfl rfl ?_
      refine am_getIk (ki := 4) (pc' := 26) (k := 4) (ci := 5) rfl dX5_goTo_23 rfl fl_X5_25 (by first | assumption | exact ⟨by omega, by omega, rfl⟩) rfl ?_
      refine am_istore_n (pc' := 27) (ls' := [_, _, _, _]) dX5_goTo_26 rfl rfl (Nat.le_of_ble_eq_true rfl) rfl rfl ?_
      rw [q8]
      exact t_goTo_l hY2 hQ2 (by omega) hs (fun h1 a b c d => ⟨rfl, _, _, hY2, fun x j x0 x1 x2 => by rw [a x j (by simp <;> omega), q1 x j x0 x1], by omega, b, by rw [g7] at c; exact c, d, Or.inr ⟨z2, rfl, rfl, rfl⟩⟩) (s.toNat + 1) 0 _ (by omega) (by omega) hs.1 am_fr_refl q5 (by rw [q7, g7]; exact q6)
    refine am_aload_n (pc' := 1) dX5_goTo_0 rfl rfl rfl ?_
    refine am_getIk (ki := 4) (pc' := 4) (k := 4) (ci := 5) rfl dX5_goTo_1 rfl fl_X5_25 (by first | assumption | exact ⟨by omega, by omega, rfl⟩) rfl ?_
    refine am_bipush (pc' := 6) dX5_goTo_4 rfl rfl (by decide) ?_
    refine am_icmp_eq (pc' := 9) (tgt := 17) dX5_goTo_6 rfl rfl (fun c_6 => ?_) (fun c_6 => ?_)
    · exact K17
    · refine am_aload_n (pc' := 10) dX5_goTo_9 rfl rfl rfl ?_
      refine am_getIk (ki := 4) (pc' := 13) (k := 4) (ci := 5) rfl dX5_goTo_10 rfl fl_X5_25 (by first | assumption | exact ⟨by omega, by omega, rfl⟩) rfl ?_
      refine am_iload_n (pc' := 14) dX5_goTo_13 rfl rfl rfl ?_
      refine am_icmp_le (pc' := 17) (tgt := 22) dX5_goTo_14 rfl rfl (fun c_14 => ?_) (fun c_14 => ?_)
      · exfalso; omega
      · exact K17
theorem sp_w {h : am_H} {S N U : Int} {nx : Int → Int} {a : Nat} (hV : sp_V h S N U nx a) (ψ : Int → Int) (hψ : ∀ c, 0 ≤ ψ c ∧ ψ c ≤ 1) (hN : 0 ≤ N) : ∀ n : Nat, n ≤ U → 0 ≤ mt_sum (fun k => h (S + 1) k * ψ (h S k)) n ∧ mt_sum (fun k => h (S + 1) k * ψ (h S k)) n ≤ mt_sum (h (S + 1)) n
  | 0, _ => ⟨Int.le_refl 0, Int.le_refl 0⟩
  | n + 1, hn => by
    have ih := sp_w hV ψ hψ hN n (by omega)
    have b := (hV.2.1 n (by omega) (by omega)).2
    have p := hψ (h S n)
    show 0 ≤ mt_sum (fun k => h (S + 1) k * ψ (h S k)) n + h (S + 1) n * ψ (h S n) ∧ mt_sum (fun k => h (S + 1) k * ψ (h S k)) n + h (S + 1) n * ψ (h S n) ≤ mt_sum (h (S + 1)) n + h (S + 1) n
    rcases (show ψ (h S n) = 0 ∨ ψ (h S n) = 1 by omega) with e | e <;> rw [e] <;> omega
theorem mt_sum_part {f : Int → Int} {m : Nat} : ∀ {n : Nat}, m ≤ n → (∀ p : Int, 0 ≤ p → p < n → 0 ≤ f p) → mt_sum f m ≤ mt_sum f n
  | 0, hm, _ => by rw [show m = 0 by omega]; exact Int.le_refl _
  | n + 1, hm, hf => by
    by_cases z : m = n + 1
    · rw [z]; exact Int.le_refl _
    · have := mt_sum_part (m := m) (n := n) (by omega) (fun p p0 p1 => hf p p0 (by omega))
      have := hf n (by omega) (by omega)
      show _ ≤ mt_sum f n + f n
      omega
theorem sp_W {h : am_H} {S N U : Int} {nx : Int → Int} {a : Nat} (hV : sp_V h S N U nx a) (hN : 0 ≤ N) : (∀ n : Nat, n ≤ U → mt_sum (h (S + 1)) n ≤ N) ∧ ∀ k, 0 ≤ k → k < U → h (S + 1) k ≤ N := by
  have e := hV.2.2 (fun _ => 1)
  simp only [Int.mul_one, mt_sum_1] at e
  have hf : ∀ p : Int, 0 ≤ p → p < U.toNat → 0 ≤ h (S + 1) p := fun p p0 p1 => (hV.2.1 p p0 (by omega)).2
  have e1 : mt_sum (h (S + 1)) U.toNat = N.toNat := e
  refine ⟨fun n hn => ?_, fun k k0 k1 => ?_⟩
  · have := mt_sum_part (f := h (S + 1)) (m := n) (n := U.toNat) (by omega) hf
    omega
  · have := mt_sum_le (f := h (S + 1)) (n := U.toNat) hf k0 (by omega)
    omega
theorem t_howMany_l {ρ h : am_H} {A L S K P B p v : Int} {kd : Int → Int} {a : Nat} {Q : am_Q} (hQ : ar_Q ρ h A L P B kd) (hS : am_DS ρ S K) (hK : h 19 7 ≤ K) (hp : 0 ≤ p ∧ p < P) (hV : sp_V h S (h 19 7) (h 29 3) (nxt P B kd) a)
    (hq : Q (some (am_I (mt_sum (fun r => if dg P B (gi (nxt P B kd) a r) p = v then 1 else 0) (h 19 7).toNat))) ρ h) :
    ∀ (n : Nat) (t m : Int), (h 29 3 - t).toNat < n → 0 ≤ t → t ≤ h 29 3 → m = mt_sum (fun k => h (S + 1) k * (if dg P B (h S k) p = v then 1 else 0)) t.toNat → am_WP mX5_howMany 0 0 6 [some (am_R 29), some (am_R 19), some (am_I p), some (am_I v), some (am_I m), some (am_I t)] [] ρ h Q := by
  have hN := ar_QN hQ
  obtain ⟨hC, hD, ⟨⟨c1, c2, c3, c4⟩, d1, _⟩, hP, hB⟩ := id hQ
  obtain ⟨s0, s1, s2, s3, ⟨f1, f2, f3⟩, ⟨m1, m2, m3⟩, hS9, hK0, hK7⟩ := am_DSx hS
  have hn58 := hC.1
  have k0 : am_in ρ 19 0 := ⟨by omega, by omega, rfl⟩
  have hW := sp_W hV (by omega)
  have hU := hV.1
  intro n
  induction n with
  | zero => intro t m hk; omega
  | succ n ih =>
    intro t m hk h0 h9 hm
    have b1 := sp_w hV (fun c => if dg P B c p = v then 1 else 0) (fun c => by split <;> omega) (by omega) t.toNat (by omega)
    have b2 := hW.1 t.toNat (by omega)
    rw [← hm] at b1
    refine am_iload (pc' := 8) dX5_howMany_6 rfl rfl ?_
    refine am_aload_n (pc' := 9) dX5_howMany_8 rfl rfl rfl ?_
    refine am_getIk (ki := 3) (pc' := 12) (k := 3) (ci := 5) rfl dX5_howMany_9 rfl fl_X5_21 (by first | assumption | exact ⟨by omega, by omega, rfl⟩) rfl ?_
    refine am_icmp_ge (pc' := 15) (tgt := 49) dX5_howMany_12 rfl rfl (fun c_12 => ?_) (fun c_12 => ?_)
    · refine am_iload (pc' := 51) dX5_howMany_49 rfl rfl ?_
      refine am_reti dX5_howMany_51 rfl ?_
      rw [hm, show t = h 29 3 by omega, hV.2.2 (fun c => if dg P B c p = v then 1 else 0)]; exact hq
    · refine am_aload_n (pc' := 16) dX5_howMany_15 rfl rfl rfl ?_
      refine am_aload_n (pc' := 17) dX5_howMany_16 rfl rfl rfl ?_
      refine am_getRk (ki := 0) (pc' := 20) (k := 0) (ci := 5) rfl dX5_howMany_17 rfl fl_X5_9 (by first | assumption | exact ⟨by omega, by omega, rfl⟩) rfl (by assumption) (by omega) ?_
      refine am_iload (pc' := 22) dX5_howMany_20 rfl rfl ?_
      have hr := hV.2.1 t h0 (by omega)
      have hw := hW.2 t h0 (by omega)
      refine am_iaload (pc' := 23) dX5_howMany_22 rfl (by first | assumption | exact ⟨by omega, by omega, rfl⟩) (by omega) (by omega) ?_
      refine am_iload_n (pc' := 24) dX5_howMany_23 rfl rfl rfl ?_
      refine am_callVp (pc' := 27) (as := [_, _]) (ci := 0)  rfl dX5_howMany_24 rfl ok_X0_numberIn ml_X5_48 im_X0_numberIn se_X0_numberIn rfl (Nat.le_of_ble_eq_true rfl) rfl (Nat.le_of_ble_eq_true rfl) (by first | assumption | exact ⟨by omega, by omega, rfl⟩) (t_numberIn hQ (c := h S t) (by omega) hp) ?_
      refine am_iload_n (pc' := 28) dX5_howMany_27 rfl rfl rfl ?_
      refine am_icmp_ne (pc' := 31) (tgt := 43) dX5_howMany_28 rfl rfl (fun c_28 => ?_) (fun c_28 => ?_)
      · refine am_iinc (pc' := 46) (ls' := [_, _, _, _, _, _]) dX5_howMany_43 rfl rfl ⟨by omega, by omega⟩ (Nat.le_of_ble_eq_true rfl) rfl rfl ?_
        refine am_goto (pc' := 6) dX5_howMany_46 rfl ?_
        exact ih _ _ (by omega) (by omega) (by omega) (by rw [mt_sum_next _ h0, hm]; first | rw [if_pos c_28]; omega | (rw [if_neg c_28]; omega))
      · refine am_iload (pc' := 33) dX5_howMany_31 rfl rfl ?_
        refine am_aload_n (pc' := 34) dX5_howMany_33 rfl rfl rfl ?_
        refine am_getRk (ki := 1) (pc' := 37) (k := 1) (ci := 5) rfl dX5_howMany_34 rfl fl_X5_15 (by first | assumption | exact ⟨by omega, by omega, rfl⟩) rfl (by assumption) (by omega) ?_
        refine am_iload (pc' := 39) dX5_howMany_37 rfl rfl ?_
        refine am_iaload (pc' := 40) dX5_howMany_39 rfl (by first | assumption | exact ⟨by omega, by omega, rfl⟩) (by omega) (by omega) ?_
        refine am_iadd (pc' := 41) dX5_howMany_40 rfl ⟨by omega, by omega⟩ ?_
        refine am_istore (pc' := 43) (ls' := [_, _, _, _, _, _]) dX5_howMany_41 rfl (Nat.le_of_ble_eq_true rfl) rfl rfl ?_
        refine am_iinc (pc' := 46) (ls' := [_, _, _, _, _, _]) dX5_howMany_43 rfl rfl ⟨by omega, by omega⟩ (Nat.le_of_ble_eq_true rfl) rfl rfl ?_
        refine am_goto (pc' := 6) dX5_howMany_46 rfl ?_
        exact ih _ _ (by omega) (by omega) (by omega) (by rw [mt_sum_next _ h0, hm]; first | rw [if_pos c_28]; omega | (rw [if_neg c_28]; omega))
theorem t_howMany {ρ h : am_H} {A L S K P B p v : Int} {kd : Int → Int} {a : Nat} (hQ : ar_Q ρ h A L P B kd) (hS : am_DS ρ S K) (hK : h 19 7 ≤ K) (hp : 0 ≤ p ∧ p < P) (hV : sp_V h S (h 19 7) (h 29 3) (nxt P B kd) a) :
    am_CT mX5_howMany 0 0 [am_R 29, am_R 19, am_I p, am_I v] ρ h (am_P (am_I (mt_sum (fun r => if dg P B (gi (nxt P B kd) a r) p = v then 1 else 0) (h 19 7).toNat)) ρ h) := by
  have hU := hV.1
  refine am_ct (ls := [some (am_R 29), some (am_R 19), some (am_I p), some (am_I v), none, none]) ok_X5_howMany rfl (fun _ => Nat.le_of_ble_eq_true rfl) (fun _ => rfl) (by intro v hv; simpa using hv) ?_
  refine am_iconst (pc' := 1) dX5_howMany_0 rfl rfl ?_
  refine am_istore (pc' := 3) (ls' := [_, _, _, _, _, _]) dX5_howMany_1 rfl (Nat.le_of_ble_eq_true rfl) rfl rfl ?_
  refine am_iconst (pc' := 4) dX5_howMany_3 rfl rfl ?_
  refine am_istore (pc' := 6) (ls' := [_, _, _, _, _, _]) dX5_howMany_4 rfl (Nat.le_of_ble_eq_true rfl) rfl rfl ?_
  exact t_howMany_l hQ hS hK hp hV ⟨rfl, rfl, rfl⟩ ((h 29 3).toNat + 1) 0 0 (by omega) (by omega) (by omega) rfl
