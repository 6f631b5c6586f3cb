/-! the model: what is asked of the tables -/
def md_Q (ρ h : am_H) (nx : Int → Int) (N : Int) : Prop := am_LM ρ ∧ md_A h ∧ N = mt_pw (h 38 2) (h 38 1).toNat ∧ nx 0 = 0 ∧ gr_in nx N ∧ md_tb h nx N
theorem md_QN {ρ h : am_H} {nx : Int → Int} {N : Int} (hQ : md_Q ρ h nx N) : 0 < N ∧ N ≤ 7776 := by
  obtain ⟨hM, ⟨a1, a2⟩, eN, _⟩ := hQ
  rw [eN]
  exact ⟨mt_pw_pos a2.1 _, mt_pw_7776 a2.1 a2.2 _ (by omega)⟩
theorem md_Q_fr {ρ h h' : am_H} {nx : Int → Int} {N : Int} (hf : am_fr [43, 44] h h') (hQ : md_Q ρ h nx N) : md_Q ρ h' nx N := by
  obtain ⟨hM, hA, eN, h0, hin, ht⟩ := hQ
  have g : ∀ k, h' 38 k = h 38 k := fun k => hf 38 k (by simp <;> omega)
  refine ⟨hM, by unfold md_A; rw [g, g]; exact hA, by rw [g, g]; exact eN, h0, hin, ?_⟩
  unfold md_tb
  rw [show h' 45 = h 45 from funext fun k => hf 45 k (by simp <;> omega), show h' 46 = h 46 from funext fun k => hf 46 k (by simp <;> omega), show h' 48 = h 48 from funext fun k => hf 48 k (by simp <;> omega), show h' 49 = h 49 from funext fun k => hf 49 k (by simp <;> omega)]
  exact ht
theorem md_Q_TB {ρ h h' : am_H} {r : Option am_V} {ρ' : am_H} (hM : am_LM ρ) (hA : md_A h) (q : md_TB ρ h (nxt (h 38 1) (h 38 2) (h 39)) (mt_pw (h 38 2) (h 38 1).toNat) r ρ' h') : md_Q ρ h' (nxt (h 38 1) (h 38 2) (h 39)) (mt_pw (h 38 2) (h 38 1).toNat) := by
  obtain ⟨_, _, q1, q2, q3, q4⟩ := q
  obtain ⟨a1, a2⟩ := id hA
  refine ⟨hM, ?_, ?_, nxt_0 a2.1, nxt_in a1.1 a2.1, q3⟩
  · unfold md_A; rw [q2 1 (by decide) (by decide), q2 2 (by decide) (by decide)]; exact hA
  · rw [q2 1 (by decide) (by decide), q2 2 (by decide) (by decide)]
theorem t8_roundFrom_l {ρ h : am_H} {N f : Int} {nx : Int → Int} {Q : am_Q} (hQ : md_Q ρ h nx N) (hf : 0 ≤ f ∧ f < N) (ho : onc nx f) (hq : ∀ v, v ≤ N → gr_per nx f v → Q (some (am_I v)) ρ h) :
    ∀ (n : Nat) (s : Int), (N - s).toNat < n → 1 ≤ s → s ≤ N → (∀ j : Nat, 0 < j → (j : Int) < s → gi nx j f ≠ f) → am_WP mX8_roundFrom 0 0 9 [some (am_R 38), some (am_I f), some (am_I s), some (am_I (gi nx s.toNat f))] [] ρ h Q := by
  have hN := md_QN hQ
  obtain ⟨hM, hA, eN, h00, hin, ⟨t1, t2, t3⟩⟩ := hQ
  have hn58 := hM.1
  have e1 := am_lm hM 38 13 45 (by decide)
  have l1 := am_lm hM 45 (-1) 7776 (by decide)
  intro n
  induction n with
  | zero => intro s hk; omega
  | succ n ih =>
    intro s hk h0 h1 hm
    have ga := gi_in hin hf.1 hf.2 s.toNat
    have hex : gi nx s.toNat f ≠ f → s < N := fun z => by
      obtain ⟨t, t0, t1, t2⟩ := onc_le hin hf.1 hf.2 ho
      by_cases y : (t : Int) < s
      · exact absurd t2 (hm t t0 y)
      · by_cases w : (t : Int) = s
        · rw [show t = s.toNat by omega] at t2; exact absurd t2 z
        · omega
    refine am_iload_n (pc' := 10) dX8_roundFrom_9 rfl rfl rfl ?_
    refine am_iload_n (pc' := 11) dX8_roundFrom_10 rfl rfl rfl ?_
    refine am_icmp_eq (pc' := 14) (tgt := 27) dX8_roundFrom_11 rfl rfl (fun c_11 => ?_) (fun c_11 => ?_)
    · refine am_iload_n (pc' := 28) dX8_roundFrom_27 rfl rfl rfl ?_
      refine am_reti dX8_roundFrom_28 rfl ?_
      exact hq s h1 ⟨by omega, c_11, fun j j0 j1 => hm j j0 j1⟩
    · have hsN := hex c_11
      refine am_iinc (pc' := 17) (ls' := [_, _, _, _]) dX8_roundFrom_14 rfl rfl ⟨by omega, by omega⟩ (Nat.le_of_ble_eq_true rfl) rfl rfl ?_
      refine am_aload_n (pc' := 18) dX8_roundFrom_17 rfl rfl rfl ?_
      refine am_getRk (ki := 13) (pc' := 21) (k := 13) (ci := 7) rfl dX8_roundFrom_18 rfl fl_X8_28 (by first | assumption | exact ⟨by omega, by omega, rfl⟩) rfl (by assumption) (by omega) ?_
      refine am_iload_n (pc' := 22) dX8_roundFrom_21 rfl rfl rfl ?_
      refine am_iaload (pc' := 23) dX8_roundFrom_22 rfl (by first | assumption | exact ⟨by omega, by omega, rfl⟩) (by omega) (by omega) ?_
      rw [t1 _ ga.1 ga.2]
      refine am_istore_n (pc' := 24) (ls' := [_, _, _, _]) dX8_roundFrom_23 rfl rfl (Nat.le_of_ble_eq_true rfl) rfl rfl ?_
      refine am_goto (pc' := 9) dX8_roundFrom_24 rfl ?_
      rw [show nx (gi nx s.toNat f) = gi nx (s + 1).toNat f by rw [show (s + 1).toNat = s.toNat + 1 by omega]; rfl]
      refine ih _ (by omega) (by omega) (by omega) (fun j j0 hj => ?_)
      by_cases z : (j : Int) < s
      · exact hm j j0 z
      · rw [show j = s.toNat by omega]; exact c_11
theorem t8_roundFrom {ρ h : am_H} {N f : Int} {nx : Int → Int} (hQ : md_Q ρ h nx N) (hf : 0 ≤ f ∧ f < N) (ho : onc nx f) : am_CT mX8_roundFrom 0 0 [am_R 38, am_I f] ρ h (fun r ρ' h' => ρ' = ρ ∧ h' = h ∧ ∃ v, r = some (am_I v) ∧ v ≤ N ∧ gr_per nx f v) := by
  have hN := md_QN hQ
  obtain ⟨hM, hA, eN, h00, hin, ⟨t1, t2, t3⟩⟩ := id hQ
  have hn58 := hM.1
  have e1 := am_lm hM 38 13 45 (by decide)
  have l1 := am_lm hM 45 (-1) 7776 (by decide)
  refine am_ct (ls := [some (am_R 38), some (am_I f), none, none]) ok_X8_roundFrom rfl (fun _ => Nat.le_of_ble_eq_true rfl) (fun _ => rfl) (by intro v hv; simpa using hv) ?_
  refine am_iconst (pc' := 1) dX8_roundFrom_0 rfl rfl ?_
  refine am_istore_n (pc' := 2) (ls' := [_, _, _, _]) dX8_roundFrom_1 rfl rfl (Nat.le_of_ble_eq_true rfl) rfl rfl ?_
  refine am_aload_n (pc' := 3) dX8_roundFrom_2 rfl rfl rfl ?_
  refine am_getRk (ki := 13) (pc' := 6) (k := 13) (ci := 7) rfl dX8_roundFrom_3 rfl fl_X8_28 (by first | assumption | exact ⟨by omega, by omega, rfl⟩) rfl (by assumption) (by omega) ?_
  refine am_iload_n (pc' := 7) dX8_roundFrom_6 rfl rfl rfl ?_
  refine am_iaload (pc' := 8) dX8_roundFrom_7 rfl (by first | assumption | exact ⟨by omega, by omega, rfl⟩) (by omega) (by omega) ?_
  rw [t1 _ hf.1 hf.2]
  refine am_istore_n (pc' := 9) (ls' := [_, _, _, _]) dX8_roundFrom_8 rfl rfl (Nat.le_of_ble_eq_true rfl) rfl rfl ?_
  exact t8_roundFrom_l hQ hf ho (fun v a b => ⟨rfl, rfl, v, rfl, a, b⟩) (N.toNat + 1) 1 (by omega) (by omega) (by omega) (fun j j0 j1 => by omega)
theorem t8_behind_l {ρ h : am_H} {N c t : Int} {nx : Int → Int} {Q : am_Q} (hQ : md_Q ρ h nx N) (hc : 0 ≤ c ∧ c < N) (ht : 0 ≤ t ∧ t ≤ 100000) (hq : Q (some (am_I (gi nx t.toNat c))) ρ h) :
    ∀ (n : Nat) (s : Int), (t - s).toNat < n → 0 ≤ s → s ≤ t → am_WP mX8_behind 0 0 6 [some (am_R 38), some (am_I c), some (am_L t), none, some (am_I (gi nx s.toNat c)), some (am_L s), none] [] ρ h Q := by
  have hN := md_QN hQ
  obtain ⟨hM, hA, eN, h00, hin, ⟨t1, t2, t3⟩⟩ := hQ
  have hn58 := hM.1
  have e1 := am_lm hM 38 13 45 (by decide)
  have l1 := am_lm hM 45 (-1) 7776 (by decide)
  intro n
  induction n with
  | zero => intro s hk; omega
  | succ n ih =>
    intro s hk h0 h1
    have ga := gi_in hin hc.1 hc.2 s.toNat
    refine am_lload (pc' := 8) dX8_behind_6 rfl rfl ?_
    refine am_lload_n (pc' := 9) dX8_behind_8 rfl rfl rfl ?_
    refine am_lcmp_ge (pc1 := 10) (pc' := 13) (tgt := 31) dX8_behind_9 rfl dX8_behind_10 rfl rfl (fun c_9 => ?_) (fun c_9 => ?_)
    · refine am_iload (pc' := 33) dX8_behind_31 rfl rfl ?_
      refine am_reti dX8_behind_33 rfl ?_
      rw [show s.toNat = t.toNat by omega]; exact hq
    · refine am_aload_n (pc' := 14) dX8_behind_13 rfl rfl rfl ?_
      refine am_getRk (ki := 13) (pc' := 17) (k := 13) (ci := 7) rfl dX8_behind_14 rfl fl_X8_28 (by first | assumption | exact ⟨by omega, by omega, rfl⟩) rfl (by assumption) (by omega) ?_
      refine am_iload (pc' := 19) dX8_behind_17 rfl rfl ?_
      refine am_iaload (pc' := 20) dX8_behind_19 rfl (by first | assumption | exact ⟨by omega, by omega, rfl⟩) (by omega) (by omega) ?_
      rw [t1 _ ga.1 ga.2]
      refine am_istore (pc' := 22) (ls' := [_, _, _, _, _, _, _]) dX8_behind_20 rfl (Nat.le_of_ble_eq_true rfl) rfl rfl ?_
      refine am_lload (pc' := 24) dX8_behind_22 rfl rfl ?_
      refine am_lconst1 (pc' := 25) dX8_behind_24 rfl ?_
      refine am_ladd (pc' := 26) dX8_behind_25 rfl ⟨by omega, by omega⟩ ?_
      refine am_lstore (pc' := 28) (ls' := [_, _, _, _, _, _, _]) dX8_behind_26 rfl (Nat.le_of_ble_eq_true rfl) rfl rfl ?_
      refine am_goto (pc' := 6) dX8_behind_28 rfl ?_
      rw [show nx (gi nx s.toNat c) = gi nx (s + 1).toNat c by rw [show (s + 1).toNat = s.toNat + 1 by omega]; rfl]
      exact ih _ (by omega) (by omega) (by omega)
theorem t8_behind {ρ h : am_H} {N c t : Int} {nx : Int → Int} (hQ : md_Q ρ h nx N) (hc : 0 ≤ c ∧ c < N) (ht : 0 ≤ t ∧ t ≤ 100000) : am_CT mX8_behind 0 0 [am_R 38, am_I c, am_L t] ρ h (am_P (am_I (gi nx t.toNat c)) ρ h) := by
  refine am_ct (ls := [some (am_R 38), some (am_I c), some (am_L t), none, none, none, none]) ok_X8_behind rfl (fun _ => Nat.le_of_ble_eq_true rfl) (fun _ => rfl) (by intro v hv; simpa using hv) ?_
  refine am_iload_n (pc' := 1) dX8_behind_0 rfl rfl rfl ?_
  refine am_istore (pc' := 3) (ls' := [_, _, _, _, _, _, _]) dX8_behind_1 rfl (Nat.le_of_ble_eq_true rfl) rfl rfl ?_
  refine am_lconst0 (pc' := 4) dX8_behind_3 rfl ?_
  refine am_lstore (pc' := 6) (ls' := [_, _, _, _, _, _, _]) dX8_behind_4 rfl (Nat.le_of_ble_eq_true rfl) rfl rfl ?_
  exact t8_behind_l hQ hc ht ⟨rfl, rfl, rfl⟩ (t.toNat + 1) 0 (by omega) (by omega) (by omega)
theorem t8_roundOf {ρ h : am_H} {N c : Int} {nx : Int → Int} (hQ : md_Q ρ h nx N) (hc : 0 ≤ c ∧ c < N) : am_CT mX8_roundOf 0 0 [am_R 38, am_I c] ρ h (fun r ρ' h' => ρ' = ρ ∧ h' = h ∧ ∃ v, r = some (am_I v) ∧ (0 < v ∧ v ≤ N) ∧ gr_rd nx c v) := by
  have hN := md_QN hQ
  obtain ⟨hM, hA, eN, h00, hin, ⟨t1, t2, t3⟩⟩ := id hQ
  have hn58 := hM.1
  have e1 := am_lm hM 38 16 48 (by decide)
  have l1 := am_lm hM 48 (-1) 7776 (by decide)
  have htl := (t2 c hc.1 hc.2).1
  have hlt := gr_tl_lt hin hc.1 hc.2 htl
  have hrt : gr_rt nx c (gi nx (h 48 c).toNat c) := ⟨htl.2.1, _, rfl⟩
  refine am_ct (ls := [some (am_R 38), some (am_I c)]) ok_X8_roundOf rfl (fun _ => Nat.le_of_ble_eq_true rfl) (fun _ => rfl) (by intro v hv; simpa using hv) ?_
  refine am_aload_n (pc' := 1) dX8_roundOf_0 rfl rfl rfl ?_
  refine am_aload_n (pc' := 2) dX8_roundOf_1 rfl rfl rfl ?_
  refine am_iload_n (pc' := 3) dX8_roundOf_2 rfl rfl rfl ?_
  refine am_aload_n (pc' := 4) dX8_roundOf_3 rfl rfl rfl ?_
  refine am_getRk (ki := 16) (pc' := 7) (k := 16) (ci := 7) rfl dX8_roundOf_4 rfl fl_X8_37 (by first | assumption | exact ⟨by omega, by omega, rfl⟩) rfl (by assumption) (by omega) ?_
  refine am_iload_n (pc' := 8) dX8_roundOf_7 rfl rfl rfl ?_
  refine am_iaload (pc' := 9) dX8_roundOf_8 rfl (by first | assumption | exact ⟨by omega, by omega, rfl⟩) (by omega) (by omega) ?_
  refine am_i2l (pc' := 10) dX8_roundOf_9 rfl ?_
  refine am_callVp (pc' := 13) (as := [_, _]) (ci := 7)  rfl dX8_roundOf_10 rfl ok_X8_behind ml_X8_182 im_X8_behind se_X8_behind rfl (Nat.le_of_ble_eq_true rfl) rfl (Nat.le_of_ble_eq_true rfl) (by first | assumption | exact ⟨by omega, by omega, rfl⟩) (t8_behind hQ hc ⟨htl.1, by omega⟩) ?_
  refine am_callV0 (pc' := 16) (as := [_]) (ci := 7)  rfl dX8_roundOf_13 rfl ok_X8_roundFrom ml_X8_186 im_X8_roundFrom se_X8_roundFrom rfl (Nat.le_of_ble_eq_true rfl) rfl (Nat.le_of_ble_eq_true rfl) (by first | assumption | exact ⟨by omega, by omega, rfl⟩) (t8_roundFrom hQ (gi_in hin hc.1 hc.2 _) htl.2.1) (fun r_13 ρ_13 h_13 q_13 g_13 e_13 => ?_)
  obtain ⟨rfl, rfl, v, rfl, y1, y2⟩ := q_13
  refine am_reti dX8_roundOf_16 rfl ?_
  exact ⟨rfl, rfl, v, rfl, ⟨y2.1, y1⟩, _, hrt, y2⟩
def md_row (h : am_H) : Int := mt_cd (h 38 2) (h 40) (h 38 1).toNat
theorem md_row_in {h : am_H} (hA : md_A h) (hn : mt_ok (h 38 1) (h 38 2) (h 40)) : 0 ≤ md_row h ∧ md_row h < mt_pw (h 38 2) (h 38 1).toNat := mt_cd_in hA.2.1 (fun p p0 p1 => hn p p0 (by omega))
/-- what is seen of the model stays -/
def md_fr (h h' : am_H) : Prop := (∀ x j, x ≠ 38 → ¬ (41 ≤ x ∧ x ≤ 50) → x ≠ 57 → h' x j = h x j) ∧ ∀ j, j = 0 ∨ j = 1 ∨ j = 2 ∨ j = 3 ∨ j = 23 ∨ j = 31 → h' 38 j = h 38 j
theorem md_fr_TB {ρ h h' ρ' : am_H} {nx : Int → Int} {N : Int} {r : Option am_V} (q : md_TB ρ h nx N r ρ' h') : md_fr h h' := ⟨fun x j a b c => q.2.2.1 x j (by simp <;> omega), fun j hj => q.2.2.2.1 j (by omega) (by omega)⟩
theorem md_fr_43 {h h' : am_H} (q : am_fr [43, 44] h h') : md_fr h h' := ⟨fun x j a b c => q x j (by simp <;> omega), fun j hj => q 38 j (by simp <;> omega)⟩
theorem md_fr_t {h h1 h2 : am_H} (a : md_fr h h1) (b : md_fr h1 h2) : md_fr h h2 := ⟨fun x j z1 z2 z3 => (b.1 x j z1 z2 z3).trans (a.1 x j z1 z2 z3), fun j z => (b.2 j z).trans (a.2 j z)⟩
theorem md_fr_r {h : am_H} : md_fr h h := ⟨fun _ _ _ _ _ => rfl, fun _ _ => rfl⟩
def md_R (h : am_H) : Prop := (h 38 1 = 0 ∧ h 38 2 = 0) ∨ (md_A h ∧ mt_ok (h 38 1) (h 38 2) (h 40) ∧ ∀ p, 0 ≤ p → p < h 38 1 → 0 ≤ h 39 p ∧ h 39 p ≤ 2)
theorem md_RA {h : am_H} (hR : md_R h) (h0 : h 38 1 ≠ 0) : md_A h ∧ mt_ok (h 38 1) (h 38 2) (h 40) ∧ ∀ p, 0 ≤ p → p < h 38 1 → 0 ≤ h 39 p ∧ h 39 p ≤ 2 := by
  rcases hR with z | z
  · exact absurd z.1 h0
  · exact z
theorem md_P5 {h : am_H} (hR : md_R h) : (0 ≤ h 38 1 ∧ h 38 1 ≤ 5) ∧ 0 ≤ h 38 2 ∧ h 38 2 ≤ 6 := by
  rcases hR with z | ⟨⟨a, b⟩, _⟩ <;> omega
def md_nx (h : am_H) : Int → Int := nxt (h 38 1) (h 38 2) (h 39)
def md_N (h : am_H) : Int := mt_pw (h 38 2) (h 38 1).toNat
/-- a row now, and the tables -/
theorem md_go {ρ h h1 h2 : am_H} {r : Option am_V} {ρ' : am_H} (hM : am_LM ρ) (hR : md_R h) (h0 : h 38 1 ≠ 0) (q1 : am_fr [43] h h1) (q2 : md_TB ρ h1 (nxt (h1 38 1) (h1 38 2) (h1 39)) (mt_pw (h1 38 2) (h1 38 1).toNat) r ρ' h2) : md_Q ρ h2 (md_nx h) (md_N h) ∧ md_fr h h2 ∧ h2 38 19 = md_bar (md_nx h) (md_N h) := by
  have g : ∀ k, h1 38 k = h 38 k := fun k => q1 38 k (by simp <;> omega)
  have g2 : h1 39 = h 39 := funext fun k => q1 39 k (by simp <;> omega)
  have hA1 : md_A h1 := by unfold md_A; rw [g, g]; exact (md_RA hR h0).1
  have z := md_Q_TB hM hA1 q2
  have y := q2.2.2.2.2.2
  have f := md_fr_t (md_fr_43 (am_fr_sub q1 (by intro x hx; simp at hx ⊢; omega))) (md_fr_TB q2)
  rw [g, g, g2] at z y
  exact ⟨z, f, y⟩
theorem t8_tailNow {ρ h : am_H} (hM : am_LM ρ) (hR : md_R h) (h0 : h 38 1 ≠ 0) : am_CT mX8_tailNow 0 0 [am_R 38] ρ h (fun r ρ' h' => ρ' = ρ ∧ md_fr h h' ∧ ∃ v, r = some (am_I v) ∧ gr_tl (md_nx h) (md_row h) v) := by
  have hn58 := hM.1
  obtain ⟨hA, hnm, hkd⟩ := md_RA hR h0
  have hrow := md_row_in hA hnm
  have e1 := am_lm hM 38 16 48 (by decide)
  have l1 := am_lm hM 48 (-1) 7776 (by decide)
  refine am_ct (ls := [some (am_R 38), none]) ok_X8_tailNow rfl (fun _ => Nat.le_of_ble_eq_true rfl) (fun _ => rfl) (by intro v hv; simpa using hv) ?_
  refine am_aload_n (pc' := 1) dX8_tailNow_0 rfl rfl rfl ?_
  refine am_callV0 (pc' := 4) (as := []) (ci := 7)  rfl dX8_tailNow_1 rfl ok_X8_rowNow ml_X8_191 im_X8_rowNow se_X8_rowNow rfl (Nat.le_of_ble_eq_true rfl) rfl (Nat.le_of_ble_eq_true rfl) (by first | assumption | exact ⟨by omega, by omega, rfl⟩) (t8_rowNow hM hA hnm) (fun r_1 ρ_1 h_1 q_1 g_1 e_1 => ?_)
  obtain ⟨rfl, rfl, q1⟩ := q_1
  have g : ∀ k, h_1 38 k = h 38 k := fun k => q1 38 k (by simp <;> omega)
  refine am_istore_n (pc' := 5) (ls' := [_, _]) dX8_tailNow_4 rfl rfl (Nat.le_of_ble_eq_true rfl) rfl rfl ?_
  refine am_aload_n (pc' := 6) dX8_tailNow_5 rfl rfl rfl ?_
  refine am_callV0 (pc' := 9) (as := []) (ci := 7)  rfl dX8_tailNow_6 rfl ok_X8_tables ml_X8_194 im_X8_tables se_X8_tables rfl (Nat.le_of_ble_eq_true rfl) rfl (Nat.le_of_ble_eq_true rfl) (by first | assumption | exact ⟨by omega, by omega, rfl⟩) (t8_tables hM (by unfold md_A; rw [g, g]; exact hA)) (fun r_6 ρ_6 h_6 q_6 g_6 e_6 => ?_)
  obtain ⟨hQ, hfr, hbr⟩ := md_go hM hR h0 q1 q_6
  obtain ⟨rfl, rfl, _⟩ := q_6
  have hN := md_QN hQ
  have hrb : 0 ≤ md_row h ∧ md_row h < md_N h := hrow
  refine am_aload_n (pc' := 10) dX8_tailNow_9 rfl rfl rfl ?_
  refine am_getRk (ki := 16) (pc' := 13) (k := 16) (ci := 7) rfl dX8_tailNow_10 rfl fl_X8_37 (by first | assumption | exact ⟨by omega, by omega, rfl⟩) rfl (by assumption) (by omega) ?_
  refine am_iload_n (pc' := 14) dX8_tailNow_13 rfl rfl rfl ?_
  refine am_iaload (pc' := 15) dX8_tailNow_14 rfl (by first | assumption | exact ⟨by omega, by omega, rfl⟩) hrow.1 (by show md_row h < _; omega) ?_
  refine am_reti dX8_tailNow_15 rfl ?_
  exact ⟨rfl, hfr, _, rfl, (hQ.2.2.2.2.2.2.1 _ hrow.1 hrow.2).1⟩
