/-! the model: rounds, rows -/
theorem gr_per_all {nx : Int → Int} {r L : Int} (h : gr_per nx r L) (hj : ∀ j : Nat, (j : Int) < L → r ≤ gi nx j r) : ∀ t, r ≤ gi nx t r := fun t => by
  obtain ⟨h0, h1, _⟩ := h
  have hL : 0 < L.toNat := by omega
  have hm := Nat.mod_lt t hL
  have e : gi nx t r = gi nx (t % L.toNat) r := by
    have e1 : t % L.toNat + t / L.toNat * L.toNat = t := by
      rw [Nat.mul_comm]
      exact Nat.mod_add_div t L.toNat
    have e2 := gi_add nx r (t / L.toNat * L.toNat) (t % L.toNat)
    rw [e1, gi_mul h1] at e2
    exact e2
  rw [e]
  exact hj _ (by omega)
theorem t8_rounds_i {ρ h : am_H} {N L m r : Int} {nx : Int → Int} {Q : am_Q} (hQ : md_Q ρ h nx N) (hr : 0 ≤ r ∧ r < N) (hp : gr_per nx r L) (hLN : L ≤ N)
    (K : ∀ f x v, (f = 1 ∧ gr_first nx r) ∨ (f = 0 ∧ ¬ gr_first nx r) → am_WP mX8_rounds 0 0 90 [some (am_R 38), some (am_I m), some (am_I r), x, some (am_I f), v] [] ρ h Q) :
    ∀ (n : Nat) (s f : Int), (L - s).toNat < n → 0 ≤ s → s ≤ L → ((f = 1 ∧ ∀ j : Nat, (j : Int) < s → r ≤ gi nx j r) ∨ (f = 0 ∧ ¬ ∀ j : Nat, (j : Int) < s → r ≤ gi nx j r)) → am_WP mX8_rounds 0 0 55 [some (am_R 38), some (am_I m), some (am_I r), some (am_I (gi nx s.toNat r)), some (am_I f), some (am_I (L - s))] [] ρ h Q := by
  have hN := md_QN hQ
  obtain ⟨hM, hA, eN, h00, hin, ⟨t1, t2, t3⟩⟩ := id hQ
  have hn58 := hM.1
  have e1 := am_lm hM 38 13 45 (by decide)
  have l1 := am_lm hM 45 (-1) 7776 (by decide)
  have ho : onc nx r := ⟨L.toNat, by have := hp.1; omega, hp.2.1⟩
  intro n
  induction n with
  | zero => intro s f hk; omega
  | succ n ih =>
    intro s f hk h0 h9 hf
    have ga := gi_in hin hr.1 hr.2 s.toNat
    have K77 : ∀ f', s < L → ((f' = 1 ∧ ∀ j : Nat, (j : Int) < s + 1 → r ≤ gi nx j r) ∨ (f' = 0 ∧ ¬ ∀ j : Nat, (j : Int) < s + 1 → r ≤ gi nx j r)) → am_WP mX8_rounds 0 0 75 [some (am_R 38), some (am_I m), some (am_I r), some (am_I (gi nx s.toNat r)), some (am_I f), some (am_I (L - s))] [am_I f'] ρ h Q := by
      intro f' hs hf'
      refine am_istore (pc' := 77) (ls' := [_, _, _, _, _, _]) dX8_rounds_75 rfl (Nat.le_of_ble_eq_true rfl) rfl rfl ?_
      refine am_aload_n (pc' := 78) dX8_rounds_77 rfl rfl rfl ?_
      refine am_getRk (ki := 13) (pc' := 81) (k := 13) (ci := 7) rfl dX8_rounds_78 rfl fl_X8_28 (by first | assumption | exact ⟨by omega, by omega, rfl⟩) rfl (by assumption) (by omega) ?_
      refine am_iload_n (pc' := 82) dX8_rounds_81 rfl rfl rfl ?_
      refine am_iaload (pc' := 83) dX8_rounds_82 rfl (by first | assumption | exact ⟨by omega, by omega, rfl⟩) (by omega) (by omega) ?_
      rw [t1 _ ga.1 ga.2]
      refine am_istore_n (pc' := 84) (ls' := [_, _, _, _, _, _]) dX8_rounds_83 rfl rfl (Nat.le_of_ble_eq_true rfl) rfl rfl ?_
      refine am_iinc (pc' := 87) (ls' := [_, _, _, _, _, _]) dX8_rounds_84 rfl rfl ⟨by omega, by omega⟩ (Nat.le_of_ble_eq_true rfl) rfl rfl ?_
      refine am_goto (pc' := 55) dX8_rounds_87 rfl ?_
      rw [show nx (gi nx s.toNat r) = gi nx (s + 1).toNat r by rw [show (s + 1).toNat = s.toNat + 1 by omega]; rfl, show L - s + -1 = L - (s + 1) by omega]
      exact ih _ _ (by omega) (by omega) (by omega) hf'
    have c1 : (∀ j : Nat, (j : Int) < s → r ≤ gi nx j r) → r ≤ gi nx s.toNat r → ∀ j : Nat, (j : Int) < s + 1 → r ≤ gi nx j r := fun a b j hj => by
      by_cases z : (j : Int) < s
      · exact a j z
      · rw [show j = s.toNat by omega]; exact b
    have c2 : ¬ r ≤ gi nx s.toNat r → ¬ ∀ j : Nat, (j : Int) < s + 1 → r ≤ gi nx j r := fun a b => a (b s.toNat (by omega))
    have c3 : (¬ ∀ j : Nat, (j : Int) < s → r ≤ gi nx j r) → ¬ ∀ j : Nat, (j : Int) < s + 1 → r ≤ gi nx j r := fun a b => a (fun j hj => b j (by omega))
    have f1 : f ≠ 0 → f = 1 ∧ ∀ j : Nat, (j : Int) < s → r ≤ gi nx j r := fun z => by
      rcases hf with y | y
      · exact y
      · exact absurd y.1 z
    have f0 : f = 0 → ¬ ∀ j : Nat, (j : Int) < s → r ≤ gi nx j r := fun z => by
      rcases hf with y | y
      · exact absurd (z.symm.trans y.1) (by decide)
      · exact y.2
    have hend : s = L → (f = 1 ∧ gr_first nx r) ∨ (f = 0 ∧ ¬ gr_first nx r) := fun z => by
      rcases hf with ⟨y1, y2⟩ | ⟨y1, y2⟩
      · exact Or.inl ⟨y1, ho, gr_per_all hp (z ▸ y2)⟩
      · exact Or.inr ⟨y1, fun g => y2 (fun j _ => g.2 j)⟩
    clear hf
    refine am_iload (pc' := 57) dX8_rounds_55 rfl rfl ?_
    refine am_if_le (pc' := 60) (tgt := 90) dX8_rounds_57 rfl rfl (fun c_57 => ?_) (fun c_57 => ?_)
    · exact K f _ _ (hend (by omega))
    · refine am_iload (pc' := 62) dX8_rounds_60 rfl rfl ?_
      refine am_if_eq (pc' := 65) (tgt := 74) dX8_rounds_62 rfl rfl (fun c_62 => ?_) (fun c_62 => ?_)
      · refine am_iconst (pc' := 75) dX8_rounds_74 rfl rfl ?_
        first | exact K77 _ (by omega) (Or.inr ⟨rfl, c3 (f0 c_62)⟩) | exact K77 _ (by omega) (Or.inl ⟨rfl, c1 (f1 c_62).2 (by omega)⟩) | exact K77 _ (by omega) (Or.inr ⟨rfl, c2 (by omega)⟩) | fail
      · refine am_iload_n (pc' := 66) dX8_rounds_65 rfl rfl rfl ?_
        refine am_iload_n (pc' := 67) dX8_rounds_66 rfl rfl rfl ?_
        refine am_icmp_lt (pc' := 70) (tgt := 74) dX8_rounds_67 rfl rfl (fun c_67 => ?_) (fun c_67 => ?_)
        · refine am_iconst (pc' := 75) dX8_rounds_74 rfl rfl ?_
          first | exact K77 _ (by omega) (Or.inr ⟨rfl, c3 (f0 c_62)⟩) | exact K77 _ (by omega) (Or.inl ⟨rfl, c1 (f1 c_62).2 (by omega)⟩) | exact K77 _ (by omega) (Or.inr ⟨rfl, c2 (by omega)⟩) | fail
        · refine am_iconst (pc' := 71) dX8_rounds_70 rfl rfl ?_
          refine am_goto (pc' := 75) dX8_rounds_71 rfl ?_
          first | exact K77 _ (by omega) (Or.inr ⟨rfl, c3 (f0 c_62)⟩) | exact K77 _ (by omega) (Or.inl ⟨rfl, c1 (f1 c_62).2 (by omega)⟩) | exact K77 _ (by omega) (Or.inr ⟨rfl, c2 (by omega)⟩) | fail
theorem t8_rounds_l {ρ h : am_H} {N : Int} {nx : Int → Int} {Q : am_Q} (hQ : md_Q ρ h nx N) (hq : Q (some (am_I (gr_rounds nx N.toNat))) ρ h) :
    ∀ (n : Nat) (r m : Int) (u v w : Option am_V), (N - r).toNat < n → 0 ≤ r → r ≤ N → (0 ≤ m ∧ m ≤ r) → m = gr_rounds nx r.toNat → am_WP mX8_rounds 0 0 4 [some (am_R 38), some (am_I m), some (am_I r), u, v, w] [] ρ h Q := by
  have hN := md_QN hQ
  obtain ⟨hM, hA, eN, h00, hin, ⟨t1, t2, t3⟩⟩ := id hQ
  have hn58 := hM.1
  have e1 := am_lm hM 38 14 46 (by decide)
  have l1 := am_lm hM 46 (-1) 7776 (by decide)
  have e2 := am_lm hM 38 16 48 (by decide)
  have l2 := am_lm hM 48 (-1) 7776 (by decide)
  intro n
  induction n with
  | zero => intro r m u v w hk; omega
  | succ n ih =>
    intro r m u v w hk h0 h9 hm he
    have hnext : gr_rounds nx (r + 1).toNat = gr_rounds nx r.toNat + mt_ch (gr_first nx r) := mt_sum_next _ h0
    have K90 : r < N → ∀ f x y, (f = 1 ∧ gr_first nx r) ∨ (f = 0 ∧ ¬ gr_first nx r) → am_WP mX8_rounds 0 0 90 [some (am_R 38), some (am_I m), some (am_I r), x, some (am_I f), y] [] ρ h Q := by
      intro hrN f x y hf
      have hs : (f ≠ 0 → m + 1 = gr_rounds nx (r + 1).toNat) ∧ (f = 0 → m = gr_rounds nx (r + 1).toNat) := by
        rw [hnext, ← he]
        rcases hf with ⟨a, b⟩ | ⟨a, b⟩
        · exact ⟨fun _ => by rw [mt_ch_t b], fun z => by omega⟩
        · exact ⟨fun z => absurd a z, fun _ => by rw [mt_ch_f b]; omega⟩
      clear hf
      refine am_iload_n (pc' := 91) dX8_rounds_90 rfl rfl rfl ?_
      refine am_iload (pc' := 93) dX8_rounds_91 rfl rfl ?_
      refine am_if_eq (pc' := 96) (tgt := 100) dX8_rounds_93 rfl rfl (fun c_93 => ?_) (fun c_93 => ?_)
      · refine am_iconst (pc' := 101) dX8_rounds_100 rfl rfl ?_
        refine am_iadd (pc' := 102) dX8_rounds_101 rfl ⟨by omega, by omega⟩ ?_
        refine am_istore_n (pc' := 103) (ls' := [_, _, _, _, _, _]) dX8_rounds_102 rfl rfl (Nat.le_of_ble_eq_true rfl) rfl rfl ?_
        refine am_iinc (pc' := 106) (ls' := [_, _, _, _, _, _]) dX8_rounds_103 rfl rfl ⟨by omega, by omega⟩ (Nat.le_of_ble_eq_true rfl) rfl rfl ?_
        refine am_goto (pc' := 4) dX8_rounds_106 rfl ?_
        first | exact ih _ _ _ _ _ (by omega) (by omega) (by omega) (by omega) (hs.1 c_93) | exact ih _ _ _ _ _ (by omega) (by omega) (by omega) (by omega) (by rw [Int.add_zero]; exact hs.2 c_93) | fail
      · refine am_iconst (pc' := 97) dX8_rounds_96 rfl rfl ?_
        refine am_goto (pc' := 101) dX8_rounds_97 rfl ?_
        refine am_iadd (pc' := 102) dX8_rounds_101 rfl ⟨by omega, by omega⟩ ?_
        refine am_istore_n (pc' := 103) (ls' := [_, _, _, _, _, _]) dX8_rounds_102 rfl rfl (Nat.le_of_ble_eq_true rfl) rfl rfl ?_
        refine am_iinc (pc' := 106) (ls' := [_, _, _, _, _, _]) dX8_rounds_103 rfl rfl ⟨by omega, by omega⟩ (Nat.le_of_ble_eq_true rfl) rfl rfl ?_
        refine am_goto (pc' := 4) dX8_rounds_106 rfl ?_
        first | exact ih _ _ _ _ _ (by omega) (by omega) (by omega) (by omega) (hs.1 c_93) | exact ih _ _ _ _ _ (by omega) (by omega) (by omega) (by omega) (by rw [Int.add_zero]; exact hs.2 c_93) | fail
    have K39y : r < N → onc nx r → ∀ y, am_WP mX8_rounds 0 0 37 [some (am_R 38), some (am_I m), some (am_I r), some (am_I r), v, y] [am_I 1] ρ h Q := by
      intro hrN ho y
      refine am_istore (pc' := 39) (ls' := [_, _, _, _, _, _]) dX8_rounds_37 rfl (Nat.le_of_ble_eq_true rfl) rfl rfl ?_
      refine am_iload (pc' := 41) dX8_rounds_39 rfl rfl ?_
      refine am_if_eq (pc' := 44) (tgt := 52) dX8_rounds_41 rfl rfl (fun c_41 => ?_) (fun c_41 => ?_)
      · exfalso; omega
      · refine am_aload_n (pc' := 45) dX8_rounds_44 rfl rfl rfl ?_
        refine am_iload_n (pc' := 46) dX8_rounds_45 rfl rfl rfl ?_
        refine am_callV0 (pc' := 49) (as := [_]) (ci := 7)  rfl dX8_rounds_46 rfl ok_X8_roundFrom ml_X8_186 im_X8_roundFrom se_X8_roundFrom rfl (Nat.le_of_ble_eq_true rfl) rfl (Nat.le_of_ble_eq_true rfl) (by first | assumption | exact ⟨by omega, by omega, rfl⟩) (t8_roundFrom hQ ⟨h0, hrN⟩ ho) (fun r_46 ρ_46 h_46 q_46 g_46 e_46 => ?_)
        obtain ⟨rfl, rfl, L, rfl, y1, y2⟩ := q_46
        refine am_goto (pc' := 53) dX8_rounds_49 rfl ?_
        refine am_istore (pc' := 55) (ls' := [_, _, _, _, _, _]) dX8_rounds_53 rfl (Nat.le_of_ble_eq_true rfl) rfl rfl ?_
        exact (show L - 0 = L by omega) ▸ t8_rounds_i hQ ⟨h0, hrN⟩ y2 y1 (K90 hrN) (L.toNat + 1) 0 1 (by omega) (by omega) (by have := y2.1; omega) (Or.inl ⟨rfl, fun j hj => by omega⟩)
    have K39n : r < N → ¬ onc nx r → ∀ y, am_WP mX8_rounds 0 0 37 [some (am_R 38), some (am_I m), some (am_I r), some (am_I r), v, y] [am_I 0] ρ h Q := by
      intro hrN ho y
      refine am_istore (pc' := 39) (ls' := [_, _, _, _, _, _]) dX8_rounds_37 rfl (Nat.le_of_ble_eq_true rfl) rfl rfl ?_
      refine am_iload (pc' := 41) dX8_rounds_39 rfl rfl ?_
      refine am_if_eq (pc' := 44) (tgt := 52) dX8_rounds_41 rfl rfl (fun c_41 => ?_) (fun c_41 => ?_)
      · refine am_iconst (pc' := 53) dX8_rounds_52 rfl rfl ?_
        refine am_istore (pc' := 55) (ls' := [_, _, _, _, _, _]) dX8_rounds_53 rfl (Nat.le_of_ble_eq_true rfl) rfl rfl ?_
        refine am_iload (pc' := 57) dX8_rounds_55 rfl rfl ?_
        refine am_if_le (pc' := 60) (tgt := 90) dX8_rounds_57 rfl rfl (fun c_57 => ?_) (fun c_57 => ?_)
        · exact K90 hrN 0 _ _ (Or.inr ⟨rfl, fun g => ho g.1⟩)
        · exfalso; omega
      · exfalso; omega
    refine am_iload_n (pc' := 5) dX8_rounds_4 rfl rfl rfl ?_
    refine am_aload_n (pc' := 6) dX8_rounds_5 rfl rfl rfl ?_
    refine am_callVp (pc' := 9) (as := []) (ci := 7)  rfl dX8_rounds_6 rfl ok_X8_allRows ml_X8_170 im_X8_allRows se_X8_allRows rfl (Nat.le_of_ble_eq_true rfl) rfl (Nat.le_of_ble_eq_true rfl) (by first | assumption | exact ⟨by omega, by omega, rfl⟩) (t8_allRows hM hA) ?_
    rw [← eN]
    refine am_icmp_ge (pc' := 12) (tgt := 109) dX8_rounds_9 rfl rfl (fun c_9 => ?_) (fun c_9 => ?_)
    · refine am_iload_n (pc' := 110) dX8_rounds_109 rfl rfl rfl ?_
      refine am_reti dX8_rounds_110 rfl ?_
      rw [he, show r.toNat = N.toNat by omega]; exact hq
    · refine am_iload_n (pc' := 13) dX8_rounds_12 rfl rfl rfl ?_
      refine am_istore_n (pc' := 14) (ls' := [_, _, _, _, _, _]) dX8_rounds_13 rfl rfl (Nat.le_of_ble_eq_true rfl) rfl rfl ?_
      have q3 := t3 r h0 (by omega)
      have q2 := (t2 r h0 (by omega)).1
      refine am_aload_n (pc' := 15) dX8_rounds_14 rfl rfl rfl ?_
      refine am_getRk (ki := 14) (pc' := 18) (k := 14) (ci := 7) rfl dX8_rounds_15 rfl fl_X8_31 (by first | assumption | exact ⟨by omega, by omega, rfl⟩) rfl (by assumption) (by omega) ?_
      refine am_iload_n (pc' := 19) dX8_rounds_18 rfl rfl rfl ?_
      refine am_iaload (pc' := 20) dX8_rounds_19 rfl (by first | assumption | exact ⟨by omega, by omega, rfl⟩) (by omega) (by omega) ?_
      refine am_if_le (pc' := 23) (tgt := 36) dX8_rounds_20 rfl rfl (fun c_20 => ?_) (fun c_20 => ?_)
      · refine am_iconst (pc' := 37) dX8_rounds_36 rfl rfl ?_
        first | exact K39n (by omega) (fun z => c_20 (q3.mpr z)) _ | exact K39n (by omega) (fun z => by have := q3.mpr z; omega) _ | exact K39y (by omega) (q3.mp (by omega)) _ | exact K39n (by omega) (fun z => c_29 (gr_tl_uniq q2 (gr_tl_0 z))) _ | fail
      · refine am_aload_n (pc' := 24) dX8_rounds_23 rfl rfl rfl ?_
        refine am_getRk (ki := 16) (pc' := 27) (k := 16) (ci := 7) rfl dX8_rounds_24 rfl fl_X8_37 (by first | assumption | exact ⟨by omega, by omega, rfl⟩) rfl (by assumption) (by omega) ?_
        refine am_iload_n (pc' := 28) dX8_rounds_27 rfl rfl rfl ?_
        refine am_iaload (pc' := 29) dX8_rounds_28 rfl (by first | assumption | exact ⟨by omega, by omega, rfl⟩) (by omega) (by omega) ?_
        refine am_if_ne (pc' := 32) (tgt := 36) dX8_rounds_29 rfl rfl (fun c_29 => ?_) (fun c_29 => ?_)
        · refine am_iconst (pc' := 37) dX8_rounds_36 rfl rfl ?_
          first | exact K39n (by omega) (fun z => c_20 (q3.mpr z)) _ | exact K39n (by omega) (fun z => by have := q3.mpr z; omega) _ | exact K39y (by omega) (q3.mp (by omega)) _ | exact K39n (by omega) (fun z => c_29 (gr_tl_uniq q2 (gr_tl_0 z))) _ | fail
        · refine am_iconst (pc' := 33) dX8_rounds_32 rfl rfl ?_
          refine am_goto (pc' := 37) dX8_rounds_33 rfl ?_
          first | exact K39n (by omega) (fun z => c_20 (q3.mpr z)) _ | exact K39n (by omega) (fun z => by have := q3.mpr z; omega) _ | exact K39y (by omega) (q3.mp (by omega)) _ | exact K39n (by omega) (fun z => c_29 (gr_tl_uniq q2 (gr_tl_0 z))) _ | fail
theorem t8_rounds {ρ h : am_H} {N : Int} {nx : Int → Int} (hQ : md_Q ρ h nx N) : am_CT mX8_rounds 0 0 [am_R 38] ρ h (am_P (am_I (gr_rounds nx N.toNat)) ρ h) := by
  have hN := md_QN hQ
  refine am_ct (ls := [some (am_R 38), none, none, none, none, none]) ok_X8_rounds rfl (fun _ => Nat.le_of_ble_eq_true rfl) (fun _ => rfl) (by intro v hv; simpa using hv) ?_
  refine am_iconst (pc' := 1) dX8_rounds_0 rfl rfl ?_
  refine am_istore_n (pc' := 2) (ls' := [_, _, _, _, _, _]) dX8_rounds_1 rfl rfl (Nat.le_of_ble_eq_true rfl) rfl rfl ?_
  refine am_iconst (pc' := 3) dX8_rounds_2 rfl rfl ?_
  refine am_istore_n (pc' := 4) (ls' := [_, _, _, _, _, _]) dX8_rounds_3 rfl rfl (Nat.le_of_ble_eq_true rfl) rfl rfl ?_
  exact t8_rounds_l hQ ⟨rfl, rfl, rfl⟩ (N.toNat + 1) 0 0 _ _ _ (by omega) (by omega) (by omega) (by omega) rfl
