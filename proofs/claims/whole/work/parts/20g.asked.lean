/-! the model: from, longest, rows -/
theorem t8_from_l {ρ h : am_H} {N c k : Int} {nx : Int → Int} {Q : am_Q} (hQ : md_Q ρ h nx N)
    (K : ∀ m f x, m = mt_sum (fun d => if nx d = c then 1 else 0) N.toNat → gr_fc nx N c f → (f = -9 ↔ m = 0) → am_WP mX8_from 0 0 100 [some (am_R 38), some (am_I k), some (am_I c), some (am_I m), some (am_I f), x] [] ρ h Q) :
    ∀ (n : Nat) (x m f : Int), x < n → -1 ≤ x → x < N → m + mt_sum (fun d => if nx d = c then 1 else 0) (x + 1).toNat = mt_sum (fun d => if nx d = c then 1 else 0) N.toNat → (0 ≤ m ∧ m ≤ N) → (f = -9 ↔ m = 0) → ((f = -9 ∧ ∀ d, x < d → d < N → nx d ≠ c) ∨ (x < f ∧ f < N ∧ nx f = c ∧ ∀ d, x < d → d < f → nx d ≠ c)) → am_WP mX8_from 0 0 50 [some (am_R 38), some (am_I k), some (am_I c), some (am_I m), some (am_I f), some (am_I x)] [] ρ h Q := by
  have hN := md_QN hQ
  obtain ⟨hM, hA, eN, h00, hin, ⟨t1, t2, t3⟩⟩ := id hQ
  have hn58 := hM.1
  have e1 := am_lm hM 38 13 45 (by decide)
  have l1 := am_lm hM 45 (-1) 7776 (by decide)
  have fin : ∀ x m f v, x = -1 → m + mt_sum (fun d => if nx d = c then 1 else 0) (x + 1).toNat = mt_sum (fun d => if nx d = c then 1 else 0) N.toNat → (f = -9 ↔ m = 0) → ((f = -9 ∧ ∀ d, x < d → d < N → nx d ≠ c) ∨ (x < f ∧ f < N ∧ nx f = c ∧ ∀ d, x < d → d < f → nx d ≠ c)) → am_WP mX8_from 0 0 100 [some (am_R 38), some (am_I k), some (am_I c), some (am_I m), some (am_I f), v] [] ρ h Q := fun x m f v hx hm hfm hf => by
    subst hx
    refine K m f v ?_ ?_ hfm
    · rw [← hm, show (-1 + 1 : Int).toNat = 0 from rfl]
      show m = m + 0
      omega
    · rcases hf with ⟨a, b⟩ | ⟨a, b, d, e⟩
      · exact Or.inr ⟨a, fun d d0 d1 => b d (by omega) d1⟩
      · exact Or.inl ⟨by omega, b, d, fun d d0 d1 => e d (by omega) d1⟩
  intro n
  induction n with
  | zero =>
    intro x m f a b d hm hmb hfm hf
    refine am_iload (pc' := 52) dX8_from_50 rfl rfl ?_
    refine am_if_lt (pc' := 55) (tgt := 100) dX8_from_52 rfl rfl (fun c_52 => ?_) (fun c_52 => ?_)
    · exact fin x m f _ (by omega) hm hfm hf
    · exfalso; omega
  | succ n ih =>
    intro x m f a b d hm hmb hfm hf
    have hs : 0 ≤ x → mt_sum (fun d => if nx d = c then 1 else 0) (x + 1).toNat = mt_sum (fun d => if nx d = c then 1 else 0) x.toNat + (if nx x = c then 1 else 0) := fun z => mt_sum_next _ z
    have hcb := cnt_in (nx := nx) (c := c) N.toNat
    have hcx := cnt_in (nx := nx) (c := c) x.toNat
    have K94 : ∀ m' f', 0 ≤ x → m' + mt_sum (fun d => if nx d = c then 1 else 0) x.toNat = mt_sum (fun d => if nx d = c then 1 else 0) N.toNat → (0 ≤ m' ∧ m' ≤ N) → (f' = -9 ↔ m' = 0) → ((f' = -9 ∧ ∀ d, x - 1 < d → d < N → nx d ≠ c) ∨ (x - 1 < f' ∧ f' < N ∧ nx f' = c ∧ ∀ d, x - 1 < d → d < f' → nx d ≠ c)) → am_WP mX8_from 0 0 94 [some (am_R 38), some (am_I k), some (am_I c), some (am_I m'), some (am_I f'), some (am_I x)] [] ρ h Q := by
      intro m' f' x0 hm' hmb' hfm' hf'
      refine am_iinc (pc' := 97) (ls' := [_, _, _, _, _, _]) dX8_from_94 rfl rfl ⟨by omega, by omega⟩ (Nat.le_of_ble_eq_true rfl) rfl rfl ?_
      refine am_goto (pc' := 50) dX8_from_97 rfl ?_
      exact ih (x + -1) m' f' (by omega) (by omega) (by omega) (by rw [show x + -1 + 1 = x by omega]; exact hm') hmb' hfm' (by rw [show x + -1 = x - 1 by omega]; exact hf')
    have kx : nx x ≠ c → ∀ w, x - 1 < w → (x < w → nx w ≠ c) → nx w ≠ c := fun z w w0 w1 => by
      by_cases y : w = x
      · rw [y]; exact z
      · exact w1 (by omega)
    refine am_iload (pc' := 52) dX8_from_50 rfl rfl ?_
    refine am_if_lt (pc' := 55) (tgt := 100) dX8_from_52 rfl rfl (fun c_52 => ?_) (fun c_52 => ?_)
    · exact fin x m f _ (by omega) hm hfm hf
    · have ht := t1 x (by omega) d
      have hsx := hs (by omega)
      refine am_iload_n (pc' := 56) dX8_from_55 rfl rfl rfl ?_
      refine am_aload_n (pc' := 57) dX8_from_56 rfl rfl rfl ?_
      refine am_getRk (ki := 13) (pc' := 60) (k := 13) (ci := 7) rfl dX8_from_57 rfl fl_X8_28 (by first | assumption | exact ⟨by omega, by omega, rfl⟩) rfl (by assumption) (by omega) ?_
      refine am_iload (pc' := 62) dX8_from_60 rfl rfl ?_
      refine am_iaload (pc' := 63) dX8_from_62 rfl (by first | assumption | exact ⟨by omega, by omega, rfl⟩) (by omega) (by omega) ?_
      rw [ht]
      refine am_iload_n (pc' := 64) dX8_from_63 rfl rfl rfl ?_
      refine am_icmp_ne (pc' := 67) (tgt := 71) dX8_from_64 rfl rfl (fun c_64 => ?_) (fun c_64 => ?_)
      · rw [if_neg c_64] at hsx
        refine am_iconst (pc' := 72) dX8_from_71 rfl rfl ?_
        refine am_iadd (pc' := 73) dX8_from_72 rfl ⟨by omega, by omega⟩ ?_
        refine am_istore_n (pc' := 74) (ls' := [_, _, _, _, _, _]) dX8_from_73 rfl rfl (Nat.le_of_ble_eq_true rfl) rfl rfl ?_
        refine am_aload_n (pc' := 75) dX8_from_74 rfl rfl rfl ?_
        refine am_getRk (ki := 13) (pc' := 78) (k := 13) (ci := 7) rfl dX8_from_75 rfl fl_X8_28 (by first | assumption | exact ⟨by omega, by omega, rfl⟩) rfl (by assumption) (by omega) ?_
        refine am_iload (pc' := 80) dX8_from_78 rfl rfl ?_
        refine am_iaload (pc' := 81) dX8_from_80 rfl (by first | assumption | exact ⟨by omega, by omega, rfl⟩) (by omega) (by omega) ?_
        rw [ht]
        refine am_iload_n (pc' := 82) dX8_from_81 rfl rfl rfl ?_
        refine am_icmp_ne (pc' := 85) (tgt := 90) dX8_from_82 rfl rfl (fun c_82 => ?_) (fun c_82 => ?_)
        · refine am_iload (pc' := 92) dX8_from_90 rfl rfl ?_
          refine am_istore (pc' := 94) (ls' := [_, _, _, _, _, _]) dX8_from_92 rfl (Nat.le_of_ble_eq_true rfl) rfl rfl ?_
          first | exact absurd c_64 c_82 | exact absurd c_82 c_64 | exact K94 _ _ (by omega) (by omega) (by omega) (by omega) (Or.inr ⟨by omega, d, c_64, fun y y0 y1 => by omega⟩) | exact K94 _ _ (by omega) (by omega) (by omega) (by omega) (by rcases hf with ⟨y1, y2⟩ | ⟨y1, y2, y3, y4⟩; exact Or.inl ⟨y1, fun w w0 w1 => kx c_64 w w0 (fun z => y2 w z w1)⟩; exact Or.inr ⟨by omega, y2, y3, fun w w0 w1 => kx c_64 w w0 (fun z => y4 w z w1)⟩) | fail
        · refine am_iload (pc' := 87) dX8_from_85 rfl rfl ?_
          refine am_goto (pc' := 92) dX8_from_87 rfl ?_
          refine am_istore (pc' := 94) (ls' := [_, _, _, _, _, _]) dX8_from_92 rfl (Nat.le_of_ble_eq_true rfl) rfl rfl ?_
          first | exact absurd c_64 c_82 | exact absurd c_82 c_64 | exact K94 _ _ (by omega) (by omega) (by omega) (by omega) (Or.inr ⟨by omega, d, c_64, fun y y0 y1 => by omega⟩) | exact K94 _ _ (by omega) (by omega) (by omega) (by omega) (by rcases hf with ⟨y1, y2⟩ | ⟨y1, y2, y3, y4⟩; exact Or.inl ⟨y1, fun w w0 w1 => kx c_64 w w0 (fun z => y2 w z w1)⟩; exact Or.inr ⟨by omega, y2, y3, fun w w0 w1 => kx c_64 w w0 (fun z => y4 w z w1)⟩) | fail
      · rw [if_pos c_64] at hsx
        refine am_iconst (pc' := 68) dX8_from_67 rfl rfl ?_
        refine am_goto (pc' := 72) dX8_from_68 rfl ?_
        refine am_iadd (pc' := 73) dX8_from_72 rfl ⟨by omega, by omega⟩ ?_
        refine am_istore_n (pc' := 74) (ls' := [_, _, _, _, _, _]) dX8_from_73 rfl rfl (Nat.le_of_ble_eq_true rfl) rfl rfl ?_
        refine am_aload_n (pc' := 75) dX8_from_74 rfl rfl rfl ?_
        refine am_getRk (ki := 13) (pc' := 78) (k := 13) (ci := 7) rfl dX8_from_75 rfl fl_X8_28 (by first | assumption | exact ⟨by omega, by omega, rfl⟩) rfl (by assumption) (by omega) ?_
        refine am_iload (pc' := 80) dX8_from_78 rfl rfl ?_
        refine am_iaload (pc' := 81) dX8_from_80 rfl (by first | assumption | exact ⟨by omega, by omega, rfl⟩) (by omega) (by omega) ?_
        rw [ht]
        refine am_iload_n (pc' := 82) dX8_from_81 rfl rfl rfl ?_
        refine am_icmp_ne (pc' := 85) (tgt := 90) dX8_from_82 rfl rfl (fun c_82 => ?_) (fun c_82 => ?_)
        · refine am_iload (pc' := 92) dX8_from_90 rfl rfl ?_
          refine am_istore (pc' := 94) (ls' := [_, _, _, _, _, _]) dX8_from_92 rfl (Nat.le_of_ble_eq_true rfl) rfl rfl ?_
          first | exact absurd c_64 c_82 | exact absurd c_82 c_64 | exact K94 _ _ (by omega) (by omega) (by omega) (by omega) (Or.inr ⟨by omega, d, c_64, fun y y0 y1 => by omega⟩) | exact K94 _ _ (by omega) (by omega) (by omega) (by omega) (by rcases hf with ⟨y1, y2⟩ | ⟨y1, y2, y3, y4⟩; exact Or.inl ⟨y1, fun w w0 w1 => kx c_64 w w0 (fun z => y2 w z w1)⟩; exact Or.inr ⟨by omega, y2, y3, fun w w0 w1 => kx c_64 w w0 (fun z => y4 w z w1)⟩) | fail
        · refine am_iload (pc' := 87) dX8_from_85 rfl rfl ?_
          refine am_goto (pc' := 92) dX8_from_87 rfl ?_
          refine am_istore (pc' := 94) (ls' := [_, _, _, _, _, _]) dX8_from_92 rfl (Nat.le_of_ble_eq_true rfl) rfl rfl ?_
          first | exact absurd c_64 c_82 | exact absurd c_82 c_64 | exact K94 _ _ (by omega) (by omega) (by omega) (by omega) (Or.inr ⟨by omega, d, c_64, fun y y0 y1 => by omega⟩) | exact K94 _ _ (by omega) (by omega) (by omega) (by omega) (by rcases hf with ⟨y1, y2⟩ | ⟨y1, y2, y3, y4⟩; exact Or.inl ⟨y1, fun w w0 w1 => kx c_64 w w0 (fun z => y2 w z w1)⟩; exact Or.inr ⟨by omega, y2, y3, fun w w0 w1 => kx c_64 w w0 (fun z => y4 w z w1)⟩) | fail
theorem t8_from {ρ h : am_H} {k : Int} (hM : am_LM ρ) (hR : md_R h) : am_CT mX8_from 0 0 [am_R 38, am_I k] ρ h (fun r ρ' h' => ρ' = ρ ∧ md_fr h h' ∧ ∃ v, r = some (am_I v) ∧ o_g3 (-1 ≤ k ∧ k < 5) (h 38 1) (o_from (md_nx h) (md_N h) (h 38 1) (h 38 2) (md_row h) k) v) := by
  have hn58 := hM.1
  have e1 := am_lm hM 38 11 43 (by decide)
  have l1 := am_lm hM 43 (-1) 5 (by decide)
  refine am_ct (ls := [some (am_R 38), some (am_I k), none, none, none, none]) ok_X8_from rfl (fun _ => Nat.le_of_ble_eq_true rfl) (fun _ => rfl) (by intro v hv; simpa using hv) ?_
  refine am_iload_n (pc' := 1) dX8_from_0 rfl rfl rfl ?_
  refine am_i2l (pc' := 2) dX8_from_1 rfl ?_
  refine am_ldc2 (pc' := 5) (x := -1) dX8_from_2 rfl kl_X8_232 rfl rfl ?_
  refine am_ldc2 (pc' := 8) (x := 4) dX8_from_5 rfl kl_X8_220 rfl rfl ?_
  refine am_callSp (pc' := 11) (as := [_, _, _])  rfl dX8_from_8 rfl ok_X8_in ml_X8_80 sm_X8_in (Nat.le_of_ble_eq_true rfl) rfl (Nat.le_of_ble_eq_true rfl) (t8_in) ?_
  refine am_if_ne (pc' := 14) (tgt := 17) dX8_from_11 rfl rfl (fun c_11 => ?_) (fun c_11 => ?_)
  · simp only [am_z0, am_z1, ne_eq] at c_11
    refine am_aload_n (pc' := 18) dX8_from_17 rfl rfl rfl ?_
    refine am_getIk (ki := 1) (pc' := 21) (k := 1) (ci := 7) rfl dX8_from_18 rfl fl_X8_77 (by first | assumption | exact ⟨by omega, by omega, rfl⟩) rfl ?_
    refine am_if_ne (pc' := 24) (tgt := 27) dX8_from_21 rfl rfl (fun c_21 => ?_) (fun c_21 => ?_)
    · have hP0 : h 38 1 ≠ 0 := by omega
      obtain ⟨hA, hnm, hkd⟩ := md_RA hR hP0
      have hrow : 0 ≤ md_row h ∧ md_row h < md_N h := md_row_in hA hnm
      refine am_aload_n (pc' := 28) dX8_from_27 rfl rfl rfl ?_
      refine am_callV0 (pc' := 31) (as := []) (ci := 7)  rfl dX8_from_28 rfl ok_X8_rowNow ml_X8_191 im_X8_rowNow se_X8_rowNow rfl (Nat.le_of_ble_eq_true rfl) rfl (Nat.le_of_ble_eq_true rfl) (by first | assumption | exact ⟨by omega, by omega, rfl⟩) (t8_rowNow hM hA hnm) (fun r_28 ρ_28 h_28 q_28 g_28 e_28 => ?_)
      obtain ⟨rfl, rfl, q1⟩ := q_28
      have g : ∀ k, h_28 38 k = h 38 k := fun k => q1 38 k (by simp <;> omega)
      change am_WP _ _ _ _ _ [am_I (md_row h)] _ _ _
      refine am_istore_n (pc' := 32) (ls' := [_, _, _, _, _, _]) dX8_from_31 rfl rfl (Nat.le_of_ble_eq_true rfl) rfl rfl ?_
      refine am_aload_n (pc' := 33) dX8_from_32 rfl rfl rfl ?_
      refine am_callV0 (pc' := 36) (as := []) (ci := 7)  rfl dX8_from_33 rfl ok_X8_tables ml_X8_194 im_X8_tables se_X8_tables rfl (Nat.le_of_ble_eq_true rfl) rfl (Nat.le_of_ble_eq_true rfl) (by first | assumption | exact ⟨by omega, by omega, rfl⟩) (t8_tables hM (by unfold md_A; rw [g, g]; exact hA)) (fun r_33 ρ_33 h_33 q_33 g_33 e_33 => ?_)
      obtain ⟨hQ, hfr, hbr⟩ := md_go hM hR hP0 q1 q_33
      obtain ⟨rfl, rfl, _⟩ := q_33
      have hN := md_QN hQ
      have hA2 := hQ.2.1
      have f1 : h_33 38 1 = h 38 1 := hfr.2 1 (by omega)
      have f2 : h_33 38 2 = h 38 2 := hfr.2 2 (by omega)
      have eN : mt_pw (h_33 38 2) (h_33 38 1).toNat = md_N h := hQ.2.2.1.symm
      refine am_iconst (pc' := 37) dX8_from_36 rfl rfl ?_
      refine am_istore_n (pc' := 38) (ls' := [_, _, _, _, _, _]) dX8_from_37 rfl rfl (Nat.le_of_ble_eq_true rfl) rfl rfl ?_
      refine am_bipush (pc' := 40) dX8_from_38 rfl rfl (by decide) ?_
      refine am_istore (pc' := 42) (ls' := [_, _, _, _, _, _]) dX8_from_40 rfl (Nat.le_of_ble_eq_true rfl) rfl rfl ?_
      refine am_aload_n (pc' := 43) dX8_from_42 rfl rfl rfl ?_
      refine am_callVp (pc' := 46) (as := []) (ci := 7)  rfl dX8_from_43 rfl ok_X8_allRows ml_X8_170 im_X8_allRows se_X8_allRows rfl (Nat.le_of_ble_eq_true rfl) rfl (Nat.le_of_ble_eq_true rfl) (by first | assumption | exact ⟨by omega, by omega, rfl⟩) (t8_allRows hM hA2) ?_
      rw [eN]
      refine am_iconst (pc' := 47) dX8_from_46 rfl rfl ?_
      refine am_isub (pc' := 48) dX8_from_47 rfl ⟨by omega, by omega⟩ ?_
      refine am_istore (pc' := 50) (ls' := [_, _, _, _, _, _]) dX8_from_48 rfl (Nat.le_of_ble_eq_true rfl) rfl rfl ?_
      refine t8_from_l hQ (fun m f v hm hf hfm => ?_) (md_N h).toNat _ 0 (-9) (by omega) (by omega) (by omega) (by rw [show md_N h - 1 + 1 = md_N h by omega]; omega) (by omega) (by omega) (Or.inl ⟨rfl, fun d d0 d1 => by omega⟩)
      have hmb := cnt_in (nx := md_nx h) (c := md_row h) (md_N h).toNat
      rw [← hm] at hmb
      have hP5 := hA.1
      have hfb : m ≠ 0 → 0 ≤ f ∧ f ≤ 100000 := fun z => by
        rcases hf with ⟨y1, y2, _⟩ | ⟨y1, _⟩
        · omega
        · exact absurd (hfm.mp y1) z
      refine am_iload_n (pc' := 101) dX8_from_100 rfl rfl rfl ?_
      refine am_if_ge (pc' := 104) (tgt := 106) dX8_from_101 rfl rfl (fun c_101 => ?_) (fun c_101 => ?_)
      · refine am_iload_n (pc' := 107) dX8_from_106 rfl rfl rfl ?_
        refine am_if_eq (pc' := 110) (tgt := 118) dX8_from_107 rfl rfl (fun c_107 => ?_) (fun c_107 => ?_)
        · refine am_bipush (pc' := 120) dX8_from_118 rfl rfl (by decide) ?_
          refine am_reti dX8_from_120 rfl ?_
          first | exact ⟨rfl, hfr, _, rfl, Or.inr (Or.inr ⟨by omega, by omega, Or.inr ⟨by omega, f, hf, by rw [if_pos (Or.inl (hfm.mpr (by omega)))]⟩⟩)⟩ | exact ⟨rfl, hfr, _, rfl, Or.inr (Or.inr ⟨by omega, by omega, Or.inr ⟨by omega, f, hf, by rw [if_pos (Or.inr (by omega))]⟩⟩)⟩ | fail
        · refine am_aload_n (pc' := 111) dX8_from_110 rfl rfl rfl ?_
          refine am_iload_n (pc' := 112) dX8_from_111 rfl rfl rfl ?_
          refine am_callVp (pc' := 115) (as := [_]) (ci := 7)  rfl dX8_from_112 rfl ok_X8_noPlace ml_X8_149 im_X8_noPlace se_X8_noPlace rfl (Nat.le_of_ble_eq_true rfl) rfl (Nat.le_of_ble_eq_true rfl) (by first | assumption | exact ⟨by omega, by omega, rfl⟩) (t8_noPlace hM (by omega)) ?_
          refine am_if_eq (pc' := 118) (tgt := 121) dX8_from_115 rfl rfl (fun c_115 => ?_) (fun c_115 => ?_)
          · simp only [am_z0, am_z1, ne_eq] at c_115
            refine am_aload_n (pc' := 122) dX8_from_121 rfl rfl rfl ?_
            refine am_iload (pc' := 124) dX8_from_122 rfl rfl ?_
            refine am_callV0 (pc' := 127) (as := [_]) (ci := 7)  rfl dX8_from_124 rfl ok_X8_takesRow ml_X8_173 im_X8_takesRow se_X8_takesRow rfl (Nat.le_of_ble_eq_true rfl) rfl (Nat.le_of_ble_eq_true rfl) (by first | assumption | exact ⟨by omega, by omega, rfl⟩) (t8_takesRow hM hA2 (hfb (by omega))) (fun r_124 ρ_124 h_124 q_124 g_124 e_124 => ?_)
            obtain ⟨rfl, rfl, q5, q6⟩ := q_124
            refine am_aload_n (pc' := 128) dX8_from_127 rfl rfl rfl ?_
            refine am_getRk (ki := 11) (pc' := 131) (k := 11) (ci := 7) rfl dX8_from_128 rfl fl_X8_22 (by first | assumption | exact ⟨by omega, by omega, rfl⟩) rfl (by assumption) (by omega) ?_
            refine am_iload_n (pc' := 132) dX8_from_131 rfl rfl rfl ?_
            refine am_iaload (pc' := 133) dX8_from_132 rfl (by first | assumption | exact ⟨by omega, by omega, rfl⟩) (by omega) (by omega) ?_
            refine am_reti dX8_from_133 rfl ?_
            exact ⟨rfl, md_fr_t hfr (md_fr_43 (am_fr_sub q5 (by intro x hx; simp at hx ⊢; omega))), _, rfl, Or.inr (Or.inr ⟨by omega, by omega, Or.inr ⟨by omega, f, hf, by rw [if_neg (by omega), q6 k (by omega) (by omega), f1, f2]⟩⟩)⟩
          · simp only [am_z0, am_z1, ne_eq] at c_115
            refine am_bipush (pc' := 120) dX8_from_118 rfl rfl (by decide) ?_
            refine am_reti dX8_from_120 rfl ?_
            first | exact ⟨rfl, hfr, _, rfl, Or.inr (Or.inr ⟨by omega, by omega, Or.inr ⟨by omega, f, hf, by rw [if_pos (Or.inl (hfm.mpr (by omega)))]⟩⟩)⟩ | exact ⟨rfl, hfr, _, rfl, Or.inr (Or.inr ⟨by omega, by omega, Or.inr ⟨by omega, f, hf, by rw [if_pos (Or.inr (by omega))]⟩⟩)⟩ | fail
      · refine am_iload_n (pc' := 105) dX8_from_104 rfl rfl rfl ?_
        refine am_reti dX8_from_105 rfl ?_
        exact ⟨rfl, hfr, _, rfl, Or.inr (Or.inr ⟨by omega, by omega, Or.inl ⟨by omega, hm⟩⟩)⟩
    · refine am_bipush (pc' := 26) dX8_from_24 rfl rfl (by decide) ?_
      refine am_reti dX8_from_26 rfl ?_
      exact ⟨rfl, md_fr_r, _, rfl, Or.inr (Or.inl ⟨by omega, by omega, rfl⟩)⟩
  · simp only [am_z0, am_z1, ne_eq] at c_11
    refine am_bipush (pc' := 16) dX8_from_14 rfl rfl (by decide) ?_
    refine am_reti dX8_from_16 rfl ?_
    exact ⟨rfl, md_fr_r, _, rfl, Or.inl ⟨by omega, rfl⟩⟩
theorem t8_longest_l {ρ h : am_H} {N k : Int} {nx : Int → Int} {Q : am_Q} (hQ : md_Q ρ h nx N) (K : ∀ b x, gr_lg (h 48) N (h 48 b) b → am_WP mX8_longest 0 0 70 [some (am_R 38), some (am_I k), some (am_I b), x] [] ρ h Q) :
    ∀ (n : Nat) (r b : Int), (N - r).toNat < n → 1 ≤ r → r ≤ N → (0 ≤ b ∧ b < r) → (∀ d, 0 ≤ d → d < r → h 48 d ≤ h 48 b) → (∀ d, 0 ≤ d → d < b → h 48 d < h 48 b) → am_WP mX8_longest 0 0 35 [some (am_R 38), some (am_I k), some (am_I b), some (am_I r)] [] ρ h Q := by
  have hN := md_QN hQ
  obtain ⟨hM, hA, eN, h00, hin, ⟨t1, t2, t3⟩⟩ := id hQ
  have hn58 := hM.1
  have e1 := am_lm hM 38 16 48 (by decide)
  have l1 := am_lm hM 48 (-1) 7776 (by decide)
  intro n
  induction n with
  | zero => intro r b hk; omega
  | succ n ih =>
    intro r b hk h1 h9 hb hle hlt
    refine am_iload_n (pc' := 36) dX8_longest_35 rfl rfl rfl ?_
    refine am_aload_n (pc' := 37) dX8_longest_36 rfl rfl rfl ?_
    refine am_callVp (pc' := 40) (as := []) (ci := 7)  rfl dX8_longest_37 rfl ok_X8_allRows ml_X8_170 im_X8_allRows se_X8_allRows rfl (Nat.le_of_ble_eq_true rfl) rfl (Nat.le_of_ble_eq_true rfl) (by first | assumption | exact ⟨by omega, by omega, rfl⟩) (t8_allRows hM hA) ?_
    rw [← eN]
    refine am_icmp_ge (pc' := 43) (tgt := 70) dX8_longest_40 rfl rfl (fun c_40 => ?_) (fun c_40 => ?_)
    · exact K b _ ⟨by omega, rfl, fun d d0 d1 => hle d d0 (by omega), hlt⟩
    · refine am_aload_n (pc' := 44) dX8_longest_43 rfl rfl rfl ?_
      refine am_getRk (ki := 16) (pc' := 47) (k := 16) (ci := 7) rfl dX8_longest_44 rfl fl_X8_37 (by first | assumption | exact ⟨by omega, by omega, rfl⟩) rfl (by assumption) (by omega) ?_
      refine am_iload_n (pc' := 48) dX8_longest_47 rfl rfl rfl ?_
      refine am_iaload (pc' := 49) dX8_longest_48 rfl (by first | assumption | exact ⟨by omega, by omega, rfl⟩) (by omega) (by omega) ?_
      refine am_aload_n (pc' := 50) dX8_longest_49 rfl rfl rfl ?_
      refine am_getRk (ki := 16) (pc' := 53) (k := 16) (ci := 7) rfl dX8_longest_50 rfl fl_X8_37 (by first | assumption | exact ⟨by omega, by omega, rfl⟩) rfl (by assumption) (by omega) ?_
      refine am_iload_n (pc' := 54) dX8_longest_53 rfl rfl rfl ?_
      refine am_iaload (pc' := 55) dX8_longest_54 rfl (by first | assumption | exact ⟨by omega, by omega, rfl⟩) (by omega) (by omega) ?_
      refine am_icmp_le (pc' := 58) (tgt := 62) dX8_longest_55 rfl rfl (fun c_55 => ?_) (fun c_55 => ?_)
      · refine am_iload_n (pc' := 63) dX8_longest_62 rfl rfl rfl ?_
        refine am_istore_n (pc' := 64) (ls' := [_, _, _, _]) dX8_longest_63 rfl rfl (Nat.le_of_ble_eq_true rfl) rfl rfl ?_
        refine am_iinc (pc' := 67) (ls' := [_, _, _, _]) dX8_longest_64 rfl rfl ⟨by omega, by omega⟩ (Nat.le_of_ble_eq_true rfl) rfl rfl ?_
        refine am_goto (pc' := 35) dX8_longest_67 rfl ?_
        first | exact ih _ _ (by omega) (by omega) (by omega) (by omega) (am_upto (fun d d0 d1 => hle d d0 d1) (by omega)) hlt | exact ih _ _ (by omega) (by omega) (by omega) (by omega) (am_upto (fun d d0 d1 => by have := hle d d0 d1; omega) (by omega)) (fun d d0 d1 => by have := hle d d0 d1; omega) | fail
      · refine am_iload_n (pc' := 59) dX8_longest_58 rfl rfl rfl ?_
        refine am_goto (pc' := 63) dX8_longest_59 rfl ?_
        refine am_istore_n (pc' := 64) (ls' := [_, _, _, _]) dX8_longest_63 rfl rfl (Nat.le_of_ble_eq_true rfl) rfl rfl ?_
        refine am_iinc (pc' := 67) (ls' := [_, _, _, _]) dX8_longest_64 rfl rfl ⟨by omega, by omega⟩ (Nat.le_of_ble_eq_true rfl) rfl rfl ?_
        refine am_goto (pc' := 35) dX8_longest_67 rfl ?_
        first | exact ih _ _ (by omega) (by omega) (by omega) (by omega) (am_upto (fun d d0 d1 => hle d d0 d1) (by omega)) hlt | exact ih _ _ (by omega) (by omega) (by omega) (by omega) (am_upto (fun d d0 d1 => by have := hle d d0 d1; omega) (by omega)) (fun d d0 d1 => by have := hle d d0 d1; omega) | fail
theorem t8_longest {ρ h : am_H} {k : Int} (hM : am_LM ρ) (hR : md_R h) : am_CT mX8_longest 0 0 [am_R 38, am_I k] ρ h (fun r ρ' h' => ρ' = ρ ∧ md_fr h h' ∧ ∃ v, r = some (am_I v) ∧ o_g3 (-1 ≤ k ∧ k < 5) (h 38 1) (o_longest (md_nx h) (md_N h) (h 38 1) (h 38 2) k) v) := by
  have hn58 := hM.1
  have e1 := am_lm hM 38 11 43 (by decide)
  have l1 := am_lm hM 43 (-1) 5 (by decide)
  have e2 := am_lm hM 38 16 48 (by decide)
  have l2 := am_lm hM 48 (-1) 7776 (by decide)
  refine am_ct (ls := [some (am_R 38), some (am_I k), none, none]) ok_X8_longest rfl (fun _ => Nat.le_of_ble_eq_true rfl) (fun _ => rfl) (by intro v hv; simpa using hv) ?_
  refine am_iload_n (pc' := 1) dX8_longest_0 rfl rfl rfl ?_
  refine am_i2l (pc' := 2) dX8_longest_1 rfl ?_
  refine am_ldc2 (pc' := 5) (x := -1) dX8_longest_2 rfl kl_X8_232 rfl rfl ?_
  refine am_ldc2 (pc' := 8) (x := 4) dX8_longest_5 rfl kl_X8_220 rfl rfl ?_
  refine am_callSp (pc' := 11) (as := [_, _, _])  rfl dX8_longest_8 rfl ok_X8_in ml_X8_80 sm_X8_in (Nat.le_of_ble_eq_true rfl) rfl (Nat.le_of_ble_eq_true rfl) (t8_in) ?_
  refine am_if_ne (pc' := 14) (tgt := 17) dX8_longest_11 rfl rfl (fun c_11 => ?_) (fun c_11 => ?_)
  · simp only [am_z0, am_z1, ne_eq] at c_11
    refine am_aload_n (pc' := 18) dX8_longest_17 rfl rfl rfl ?_
    refine am_getIk (ki := 1) (pc' := 21) (k := 1) (ci := 7) rfl dX8_longest_18 rfl fl_X8_77 (by first | assumption | exact ⟨by omega, by omega, rfl⟩) rfl ?_
    refine am_if_ne (pc' := 24) (tgt := 27) dX8_longest_21 rfl rfl (fun c_21 => ?_) (fun c_21 => ?_)
    · have hP0 : h 38 1 ≠ 0 := by omega
      obtain ⟨hA, hnm, hkd⟩ := md_RA hR hP0
      refine am_aload_n (pc' := 28) dX8_longest_27 rfl rfl rfl ?_
      refine am_callV0 (pc' := 31) (as := []) (ci := 7)  rfl dX8_longest_28 rfl ok_X8_tables ml_X8_194 im_X8_tables se_X8_tables rfl (Nat.le_of_ble_eq_true rfl) rfl (Nat.le_of_ble_eq_true rfl) (by first | assumption | exact ⟨by omega, by omega, rfl⟩) (t8_tables hM hA) (fun r_28 ρ_28 h_28 q_28 g_28 e_28 => ?_)
      obtain ⟨hQ, hfr, hbr⟩ := md_go hM hR hP0 am_fr_refl q_28
      obtain ⟨rfl, rfl, _⟩ := q_28
      have hN := md_QN hQ
      have hA2 := hQ.2.1
      have f1 : h_28 38 1 = h 38 1 := hfr.2 1 (by omega)
      have f2 : h_28 38 2 = h 38 2 := hfr.2 2 (by omega)
      have htl : ∀ d, 0 ≤ d → d < md_N h → gr_tl (md_nx h) d (h_28 48 d) := fun d d0 d1 => (hQ.2.2.2.2.2.2.1 d d0 d1).1
      refine am_iconst (pc' := 32) dX8_longest_31 rfl rfl ?_
      refine am_istore_n (pc' := 33) (ls' := [_, _, _, _]) dX8_longest_32 rfl rfl (Nat.le_of_ble_eq_true rfl) rfl rfl ?_
      refine am_iconst (pc' := 34) dX8_longest_33 rfl rfl ?_
      refine am_istore_n (pc' := 35) (ls' := [_, _, _, _]) dX8_longest_34 rfl rfl (Nat.le_of_ble_eq_true rfl) rfl rfl ?_
      refine t8_longest_l hQ (fun b v hlg => ?_) ((md_N h).toNat + 1) 1 0 (by omega) (by omega) (by omega) (by omega) (fun d d0 d1 => by rw [show d = 0 by omega]; omega) (fun d d0 d1 => by omega)
      have hlb := hlg.1
      have hP5 := hA.1
      refine am_iload_n (pc' := 71) dX8_longest_70 rfl rfl rfl ?_
      refine am_if_ge (pc' := 74) (tgt := 81) dX8_longest_71 rfl rfl (fun c_71 => ?_) (fun c_71 => ?_)
      · refine am_aload_n (pc' := 82) dX8_longest_81 rfl rfl rfl ?_
        refine am_iload_n (pc' := 83) dX8_longest_82 rfl rfl rfl ?_
        refine am_callV0 (pc' := 86) (as := [_]) (ci := 7)  rfl dX8_longest_83 rfl ok_X8_takesRow ml_X8_173 im_X8_takesRow se_X8_takesRow rfl (Nat.le_of_ble_eq_true rfl) rfl (Nat.le_of_ble_eq_true rfl) (by first | assumption | exact ⟨by omega, by omega, rfl⟩) (t8_takesRow hM hA2 (by omega)) (fun r_83 ρ_83 h_83 q_83 g_83 e_83 => ?_)
        obtain ⟨rfl, rfl, q5, q6⟩ := q_83
        have w1 : h_83 38 1 = h 38 1 := (q5 38 1 (by simp <;> omega)).trans f1
        refine am_aload_n (pc' := 87) dX8_longest_86 rfl rfl rfl ?_
        refine am_iload_n (pc' := 88) dX8_longest_87 rfl rfl rfl ?_
        refine am_callVp (pc' := 91) (as := [_]) (ci := 7)  rfl dX8_longest_88 rfl ok_X8_noPlace ml_X8_149 im_X8_noPlace se_X8_noPlace rfl (Nat.le_of_ble_eq_true rfl) rfl (Nat.le_of_ble_eq_true rfl) (by first | assumption | exact ⟨by omega, by omega, rfl⟩) (t8_noPlace hM (by omega)) ?_
        refine am_if_eq (pc' := 94) (tgt := 99) dX8_longest_91 rfl rfl (fun c_91 => ?_) (fun c_91 => ?_)
        · simp only [am_z0, am_z1, ne_eq] at c_91
          refine am_aload_n (pc' := 100) dX8_longest_99 rfl rfl rfl ?_
          refine am_getRk (ki := 11) (pc' := 103) (k := 11) (ci := 7) rfl dX8_longest_100 rfl fl_X8_22 (by first | assumption | exact ⟨by omega, by omega, rfl⟩) rfl (by assumption) (by omega) ?_
          refine am_iload_n (pc' := 104) dX8_longest_103 rfl rfl rfl ?_
          refine am_iaload (pc' := 105) dX8_longest_104 rfl (by first | assumption | exact ⟨by omega, by omega, rfl⟩) (by omega) (by omega) ?_
          refine am_reti dX8_longest_105 rfl ?_
          first | exact ⟨rfl, md_fr_t hfr (md_fr_43 (am_fr_sub q5 (by intro x hx; simp at hx ⊢; omega))), _, rfl, Or.inr (Or.inr ⟨by omega, by omega, _, _, _, htl, hlg, by rw [if_neg (by omega), if_neg (by omega)]⟩)⟩ | exact ⟨rfl, md_fr_t hfr (md_fr_43 (am_fr_sub q5 (by intro x hx; simp at hx ⊢; omega))), _, rfl, Or.inr (Or.inr ⟨by omega, by omega, _, _, _, htl, hlg, by rw [if_neg (by omega), if_pos (by omega), q6 k (by omega) (by omega), f1, f2]⟩)⟩ | fail
        · simp only [am_z0, am_z1, ne_eq] at c_91
          refine am_bipush (pc' := 96) dX8_longest_94 rfl rfl (by decide) ?_
          refine am_goto (pc' := 105) dX8_longest_96 rfl ?_
          refine am_reti dX8_longest_105 rfl ?_
          first | exact ⟨rfl, md_fr_t hfr (md_fr_43 (am_fr_sub q5 (by intro x hx; simp at hx ⊢; omega))), _, rfl, Or.inr (Or.inr ⟨by omega, by omega, _, _, _, htl, hlg, by rw [if_neg (by omega), if_neg (by omega)]⟩)⟩ | exact ⟨rfl, md_fr_t hfr (md_fr_43 (am_fr_sub q5 (by intro x hx; simp at hx ⊢; omega))), _, rfl, Or.inr (Or.inr ⟨by omega, by omega, _, _, _, htl, hlg, by rw [if_neg (by omega), if_pos (by omega), q6 k (by omega) (by omega), f1, f2]⟩)⟩ | fail
      · refine am_aload_n (pc' := 75) dX8_longest_74 rfl rfl rfl ?_
        refine am_getRk (ki := 16) (pc' := 78) (k := 16) (ci := 7) rfl dX8_longest_75 rfl fl_X8_37 (by first | assumption | exact ⟨by omega, by omega, rfl⟩) rfl (by assumption) (by omega) ?_
        refine am_iload_n (pc' := 79) dX8_longest_78 rfl rfl rfl ?_
        refine am_iaload (pc' := 80) dX8_longest_79 rfl (by first | assumption | exact ⟨by omega, by omega, rfl⟩) (by omega) (by omega) ?_
        refine am_reti dX8_longest_80 rfl ?_
        exact ⟨rfl, hfr, _, rfl, Or.inr (Or.inr ⟨by omega, by omega, _, _, _, htl, hlg, by rw [if_pos (by omega)]⟩)⟩
    · refine am_bipush (pc' := 26) dX8_longest_24 rfl rfl (by decide) ?_
      refine am_reti dX8_longest_26 rfl ?_
      exact ⟨rfl, md_fr_r, _, rfl, Or.inr (Or.inl ⟨by omega, by omega, rfl⟩)⟩
  · simp only [am_z0, am_z1, ne_eq] at c_11
    refine am_bipush (pc' := 16) dX8_longest_14 rfl rfl (by decide) ?_
    refine am_reti dX8_longest_16 rfl ?_
    exact ⟨rfl, md_fr_r, _, rfl, Or.inl ⟨by omega, rfl⟩⟩
