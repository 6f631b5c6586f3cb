/-! the model: few -/
theorem bct_h {x : Int} (h : 0 ≤ x ∧ x < 32) : bct x = x % 2 + bct (x / 2) := by
  unfold bct
  omega
theorem t8_bits_l {ρ h : am_H} {S : Int} {Q : am_Q} (hS : 0 ≤ S ∧ S < 32) (hq : Q (some (am_I (bct S))) ρ h) :
    ∀ (n : Nat) (m x : Int), x < n → 0 ≤ x → x < 32 → (0 ≤ m ∧ m ≤ 100) → m + bct x = bct S → am_WP mX8_bits 0 0 4 [some (am_I S), some (am_I m), some (am_I x)] [] ρ h Q := by
  have b0 := bct_b hS.1 hS.2
  intro n
  induction n with
  | zero => intro m x hk; omega
  | succ n ih =>
    intro m x hk h0 h1 hm he
    have hb := bct_h ⟨h0, h1⟩
    have hb2 := bct_b (S := x / 2) (by omega) (by omega)
    refine am_iload_n (pc' := 5) dX8_bits_4 rfl rfl rfl ?_
    refine am_if_le (pc' := 8) (tgt := 21) dX8_bits_5 rfl rfl (fun c_5 => ?_) (fun c_5 => ?_)
    · refine am_iload_n (pc' := 22) dX8_bits_21 rfl rfl rfl ?_
      refine am_reti dX8_bits_22 rfl ?_
      have e9 : x = 0 := by omega
      rw [e9, show bct 0 = 0 from rfl] at he
      rw [show m = bct S by omega]; exact hq
    · refine am_iload_n (pc' := 9) dX8_bits_8 rfl rfl rfl ?_
      refine am_iload_n (pc' := 10) dX8_bits_9 rfl rfl rfl ?_
      refine am_iconst (pc' := 11) dX8_bits_10 rfl rfl ?_
      refine am_iand1 (pc' := 12) dX8_bits_11 rfl (by omega) (by omega) ?_
      refine am_iadd (pc' := 13) dX8_bits_12 rfl ⟨by omega, by omega⟩ ?_
      refine am_istore_n (pc' := 14) (ls' := [_, _, _]) dX8_bits_13 rfl rfl (Nat.le_of_ble_eq_true rfl) rfl rfl ?_
      refine am_iload_n (pc' := 15) dX8_bits_14 rfl rfl rfl ?_
      refine am_iconst (pc' := 16) dX8_bits_15 rfl rfl ?_
      refine am_ishr1 (pc' := 17) dX8_bits_16 rfl (by omega) (by omega) ?_
      refine am_istore_n (pc' := 18) (ls' := [_, _, _]) dX8_bits_17 rfl rfl (Nat.le_of_ble_eq_true rfl) rfl rfl ?_
      refine am_goto (pc' := 4) dX8_bits_18 rfl ?_
      exact ih _ _ (by omega) (by omega) (by omega) (by omega) (by omega)
theorem t8_bits {ρ h : am_H} {S : Int} (hS : 0 ≤ S ∧ S < 32) : am_CT mX8_bits 0 0 [am_I S] ρ h (am_P (am_I (bct S)) ρ h) := by
  refine am_ct (ls := [some (am_I S), none, none]) ok_X8_bits rfl (fun _ => Nat.le_of_ble_eq_true rfl) (fun _ => rfl) (by intro v hv; simpa using hv) ?_
  refine am_iconst (pc' := 1) dX8_bits_0 rfl rfl ?_
  refine am_istore_n (pc' := 2) (ls' := [_, _, _]) dX8_bits_1 rfl rfl (Nat.le_of_ble_eq_true rfl) rfl rfl ?_
  refine am_iload_n (pc' := 3) dX8_bits_2 rfl rfl rfl ?_
  refine am_istore_n (pc' := 4) (ls' := [_, _, _]) dX8_bits_3 rfl rfl (Nat.le_of_ble_eq_true rfl) rfl rfl ?_
  exact t8_bits_l hS ⟨rfl, rfl, rfl⟩ (S.toNat + 1) 0 S (by omega) (by omega) (by omega) (by omega) (by omega)
theorem t8_unlike_l {ρ h : am_H} {c : Int} {g : Int → Int} {Q : am_Q} (hM : am_LM ρ) (hA : md_A h) (hg : ∀ p, 0 ≤ p → p < h 38 1 → h 43 p = g p) (hq : ∀ S, ul_is (h 38 1) (h 40) g S → Q (some (am_I S)) ρ h) :
    ∀ (n : Nat) (p S : Int), (h 38 1 - p).toNat < n → 0 ≤ p → p ≤ h 38 1 → 0 ≤ S → (∀ i : Nat, S.toNat.testBit i = decide ((i : Int) < p ∧ h 40 i ≠ g i)) → am_WP mX8_unlikeNow 0 0 9 [some (am_R 38), some (am_I c), some (am_I S), some (am_I p)] [] ρ h Q := by
  have hn58 := hM.1
  have a1 := hA.1
  have e1 := am_lm hM 38 11 43 (by decide)
  have l1 := am_lm hM 43 (-1) 5 (by decide)
  have e2 := am_lm hM 38 5 40 (by decide)
  have l2 := am_lm hM 40 (-1) 5 (by decide)
  intro n
  induction n with
  | zero => intro p S hk; omega
  | succ n ih =>
    intro p S hk h0 h9 hS hall
    have hSl := ul_lt (P := p) (f := h 40) (g := g) (by omega) hall
    have hS5 := two5 (n := p.toNat) (by omega)
    refine am_iload_n (pc' := 10) dX8_unlikeNow_9 rfl rfl rfl ?_
    refine am_aload_n (pc' := 11) dX8_unlikeNow_10 rfl rfl rfl ?_
    refine am_getIk (ki := 1) (pc' := 14) (k := 1) (ci := 7) rfl dX8_unlikeNow_11 rfl fl_X8_77 (by first | assumption | exact ⟨by omega, by omega, rfl⟩) rfl ?_
    refine am_icmp_ge (pc' := 17) (tgt := 48) dX8_unlikeNow_14 rfl rfl (fun c_14 => ?_) (fun c_14 => ?_)
    · refine am_iload_n (pc' := 49) dX8_unlikeNow_48 rfl rfl rfl ?_
      refine am_reti dX8_unlikeNow_49 rfl ?_
      have e9 : p = h 38 1 := by omega
      rw [e9] at hall hSl
      have h6 := two5 (n := (h 38 1).toNat) (by omega)
      exact hq S ⟨hS, by omega, hall⟩
    · refine am_iload_n (pc' := 18) dX8_unlikeNow_17 rfl rfl rfl ?_
      refine am_aload_n (pc' := 19) dX8_unlikeNow_18 rfl rfl rfl ?_
      refine am_getRk (ki := 11) (pc' := 22) (k := 11) (ci := 7) rfl dX8_unlikeNow_19 rfl fl_X8_22 (by first | assumption | exact ⟨by omega, by omega, rfl⟩) rfl (by assumption) (by omega) ?_
      refine am_iload_n (pc' := 23) dX8_unlikeNow_22 rfl rfl rfl ?_
      have hgp := hg p h0 (by omega)
      refine am_iaload (pc' := 24) dX8_unlikeNow_23 rfl (by first | assumption | exact ⟨by omega, by omega, rfl⟩) (by omega) (by omega) ?_
      rw [hgp]
      refine am_aload_n (pc' := 25) dX8_unlikeNow_24 rfl rfl rfl ?_
      refine am_getRk (ki := 5) (pc' := 28) (k := 5) (ci := 7) rfl dX8_unlikeNow_25 rfl fl_X8_13 (by first | assumption | exact ⟨by omega, by omega, rfl⟩) rfl (by assumption) (by omega) ?_
      refine am_iload_n (pc' := 29) dX8_unlikeNow_28 rfl rfl rfl ?_
      refine am_iaload (pc' := 30) dX8_unlikeNow_29 rfl (by first | assumption | exact ⟨by omega, by omega, rfl⟩) (by omega) (by omega) ?_
      refine am_icmp_eq (pc' := 33) (tgt := 39) dX8_unlikeNow_30 rfl rfl (fun c_30 => ?_) (fun c_30 => ?_)
      · refine am_iconst (pc' := 40) dX8_unlikeNow_39 rfl rfl ?_
        refine am_ior (pc' := 41) dX8_unlikeNow_40 rfl ⟨by omega, by omega⟩ (by first | exact ⟨Int.natCast_nonneg _, by omega⟩ | exact ⟨by omega, by omega⟩) ?_
        refine am_istore_n (pc' := 42) (ls' := [_, _, _, _]) dX8_unlikeNow_41 rfl rfl (Nat.le_of_ble_eq_true rfl) rfl rfl ?_
        refine am_iinc (pc' := 45) (ls' := [_, _, _, _]) dX8_unlikeNow_42 rfl rfl ⟨by omega, by omega⟩ (Nat.le_of_ble_eq_true rfl) rfl rfl ?_
        refine am_goto (pc' := 9) dX8_unlikeNow_45 rfl ?_
        refine ih _ _ (by omega) (by omega) (by omega) (Int.natCast_nonneg _) (fun i => ?_)
        rw [Int.toNat_natCast, Nat.testBit_or, hall i]
        by_cases z : (i : Int) = p
        · have e8 : p.toNat = i := by omega
          first | (have e9 : h 40 i = g i := by rw [z]; exact c_30.symm) | (have e9 : h 40 i ≠ g i := by rw [z]; exact fun y => c_30 y.symm)
          first | (rw [show (0 : Int).toNat = 0 from rfl, Nat.zero_testBit]; simp [e9]) | (rw [Int.toNat_natCast, Nat.testBit_two_pow]; simp [e8, e9]; omega)
        · have e8 : p.toNat ≠ i := by omega
          first | (rw [show (0 : Int).toNat = 0 from rfl, Nat.zero_testBit, Bool.or_false]) | (rw [Int.toNat_natCast, Nat.testBit_two_pow]; simp only [e8, decide_false, Bool.or_false])
          congr 1; apply propext; constructor <;> (rintro ⟨y1, y2⟩; exact ⟨by omega, y2⟩)
      · refine am_iconst (pc' := 34) dX8_unlikeNow_33 rfl rfl ?_
        refine am_iload_n (pc' := 35) dX8_unlikeNow_34 rfl rfl rfl ?_
        have h2p : (2 : Nat) ^ p.toNat ≤ 32 := two5 (by omega)
        refine am_ishl1 (pc' := 36) dX8_unlikeNow_35 rfl (by omega) (by omega) ?_
        refine am_goto (pc' := 40) dX8_unlikeNow_36 rfl ?_
        refine am_ior (pc' := 41) dX8_unlikeNow_40 rfl ⟨by omega, by omega⟩ (by first | exact ⟨Int.natCast_nonneg _, by omega⟩ | exact ⟨by omega, by omega⟩) ?_
        refine am_istore_n (pc' := 42) (ls' := [_, _, _, _]) dX8_unlikeNow_41 rfl rfl (Nat.le_of_ble_eq_true rfl) rfl rfl ?_
        refine am_iinc (pc' := 45) (ls' := [_, _, _, _]) dX8_unlikeNow_42 rfl rfl ⟨by omega, by omega⟩ (Nat.le_of_ble_eq_true rfl) rfl rfl ?_
        refine am_goto (pc' := 9) dX8_unlikeNow_45 rfl ?_
        refine ih _ _ (by omega) (by omega) (by omega) (Int.natCast_nonneg _) (fun i => ?_)
        rw [Int.toNat_natCast, Nat.testBit_or, hall i]
        by_cases z : (i : Int) = p
        · have e8 : p.toNat = i := by omega
          first | (have e9 : h 40 i = g i := by rw [z]; exact c_30.symm) | (have e9 : h 40 i ≠ g i := by rw [z]; exact fun y => c_30 y.symm)
          first | (rw [show (0 : Int).toNat = 0 from rfl, Nat.zero_testBit]; simp [e9]) | (rw [Int.toNat_natCast, Nat.testBit_two_pow]; simp [e8, e9]; omega)
        · have e8 : p.toNat ≠ i := by omega
          first | (rw [show (0 : Int).toNat = 0 from rfl, Nat.zero_testBit, Bool.or_false]) | (rw [Int.toNat_natCast, Nat.testBit_two_pow]; simp only [e8, decide_false, Bool.or_false])
          congr 1; apply propext; constructor <;> (rintro ⟨y1, y2⟩; exact ⟨by omega, y2⟩)
theorem t8_unlikeNow {ρ h : am_H} {c : Int} (hM : am_LM ρ) (hA : md_A h) (hc : 0 ≤ c ∧ c ≤ 100000) : am_CT mX8_unlikeNow 0 0 [am_R 38, am_I c] ρ h (fun r ρ' h' => ρ' = ρ ∧ am_fr [43] h h' ∧ ∃ S, r = some (am_I S) ∧ ul_is (h 38 1) (h 40) (dg (h 38 1) (h 38 2) c) S) := by
  have hn58 := hM.1
  have a1 := hA.1
  refine am_ct (ls := [some (am_R 38), some (am_I c), none, none]) ok_X8_unlikeNow rfl (fun _ => Nat.le_of_ble_eq_true rfl) (fun _ => rfl) (by intro v hv; simpa using hv) ?_
  refine am_aload_n (pc' := 1) dX8_unlikeNow_0 rfl rfl rfl ?_
  refine am_iload_n (pc' := 2) dX8_unlikeNow_1 rfl rfl rfl ?_
  refine am_callV0 (pc' := 5) (as := [_]) (ci := 7)  rfl dX8_unlikeNow_2 rfl ok_X8_takesRow ml_X8_173 im_X8_takesRow se_X8_takesRow rfl (Nat.le_of_ble_eq_true rfl) rfl (Nat.le_of_ble_eq_true rfl) (by first | assumption | exact ⟨by omega, by omega, rfl⟩) (t8_takesRow hM hA hc) (fun r_2 ρ_2 h_2 q_2 g_2 e_2 => ?_)
  obtain ⟨rfl, rfl, q1, q2⟩ := q_2
  have g1 : ∀ k, h_2 38 k = h 38 k := fun k => q1 38 k (by simp <;> omega)
  have g2 : h_2 40 = h 40 := funext fun k => q1 40 k (by simp <;> omega)
  refine am_iconst (pc' := 6) dX8_unlikeNow_5 rfl rfl ?_
  refine am_istore_n (pc' := 7) (ls' := [_, _, _, _]) dX8_unlikeNow_6 rfl rfl (Nat.le_of_ble_eq_true rfl) rfl rfl ?_
  refine am_iconst (pc' := 8) dX8_unlikeNow_7 rfl rfl ?_
  refine am_istore_n (pc' := 9) (ls' := [_, _, _, _]) dX8_unlikeNow_8 rfl rfl (Nat.le_of_ble_eq_true rfl) rfl rfl ?_
  refine t8_unlike_l (g := dg (h 38 1) (h 38 2) c) hM (by unfold md_A; rw [g1, g1]; exact hA) (fun p p0 p1 => q2 p p0 (by rw [g1] at p1; exact p1)) (fun S hS => ⟨rfl, q1, S, rfl, by rw [g1, g2] at hS; exact hS⟩) ((h_2 38 1).toNat + 1) 0 0 (by omega) (by omega) (by rw [g1]; omega) (by omega) (fun i => ?_)
  rw [show (0 : Int).toNat = 0 from rfl, Nat.zero_testBit]; simp; intro _; omega
theorem fw_eq {nx : Int → Int} {N P B S : Int} {f f' : Int → Int} (he : mt_eq P f f') (h : fw_is nx N P B f S) : fw_is nx N P B f' S := by
  obtain ⟨⟨c, c0, c1, c2, c3⟩, a2⟩ := h
  exact ⟨⟨c, c0, c1, c2, ul_eq he (fun _ _ _ => rfl) c3⟩, fun d T d0 d1 d2 d3 => a2 d T d0 d1 d2 (ul_eq (fun p p0 p1 => (he p p0 p1).symm) (fun _ _ _ => rfl) d3)⟩
theorem t8_few_l {ρ h0 h : am_H} {N w P B : Int} {nx f : Int → Int} {Q : am_Q} (hQ : md_Q ρ h nx N) (hf0 : md_fr h0 h) (eP : h 38 1 = P) (eB : h 38 2 = B) (ef : h 40 = f)
    (K : ∀ S r v v' h1, am_fr [43, 44] h h1 → (0 ≤ S ∧ S < 32) → fw_is nx N P B f S → am_WP mX8_few 0 0 115 [some (am_R 38), some (am_I w), some (am_I S), r, v, v'] [] ρ h1 Q) :
    ∀ (n : Nat) (r S : Int) (v v' : Option am_V) (h1 : am_H), (N - r).toNat < n → 1 ≤ r → r ≤ N → (0 ≤ S ∧ S < 32) → am_fr [43, 44] h h1 → ((∃ c, 0 ≤ c ∧ c < N ∧ gr_out nx c ∧ ul_is P f (dg P B c) S) ∧ ∀ d T, 0 ≤ d → d < r → gr_out nx d → ul_is P f (dg P B d) T → ¬ fw_b T S) → am_WP mX8_few 0 0 35 [some (am_R 38), some (am_I w), some (am_I S), some (am_I r), v, v'] [] ρ h1 Q := by
  have hN := md_QN hQ
  have hM := hQ.1
  have hn58 := hM.1
  have e1 := am_lm hM 38 17 49 (by decide)
  have l1 := am_lm hM 49 (-1) 7776 (by decide)
  intro n
  induction n with
  | zero => intro r S v v' h1 hk; omega
  | succ n ih =>
    intro r S v v' h1 hk r1 r9 hSb hf
    have mm : r < N → (N - (r + 1)).toNat < n ∧ 1 ≤ r + 1 ∧ r + 1 ≤ N := fun z => by omega
    have md : ∀ d, d < r + 1 → ¬ d = r → d < r := fun d z y => by omega
    have mN : ¬ r < N → r = N := fun z => by omega
    intro hI
    have hQ1 := md_Q_fr hf hQ
    have g1 : ∀ k, h1 38 k = h 38 k := fun k => hf 38 k (by simp <;> omega)
    have g2 : h1 40 = f := (funext fun k => hf 40 k (by simp <;> omega)).trans ef
    have eN : mt_pw (h1 38 2) (h1 38 1).toNat = N := hQ1.2.2.1.symm
    have hbS := bct_b hSb.1 hSb.2
    have K109 : ∀ U u u' h2, r < N → (0 ≤ U ∧ U < 32) → am_fr [43, 44] h h2 → ((∃ c, 0 ≤ c ∧ c < N ∧ gr_out nx c ∧ ul_is P f (dg P B c) U) ∧ ∀ d T, 0 ≤ d → d < r + 1 → gr_out nx d → ul_is P f (dg P B d) T → ¬ fw_b T U) → am_WP mX8_few 0 0 109 [some (am_R 38), some (am_I w), some (am_I U), some (am_I r), u, u'] [] ρ h2 Q := by
      intro U u u' h2 hr hU hf2
      obtain ⟨m1, m2, m3⟩ := mm hr
      intro hU2
      refine am_iinc (pc' := 112) (ls' := [_, _, _, _, _, _]) dX8_few_109 rfl rfl ⟨by omega, by omega⟩ (Nat.le_of_ble_eq_true rfl) rfl rfl ?_
      refine am_goto (pc' := 35) dX8_few_112 rfl ?_
      exact ih (r + 1) U u u' h2 m1 m2 m3 hU hf2 hU2
    have hkeep : r < N → ∀ T, ul_is P f (dg P B r) T → (gr_out nx r → ¬ fw_b T S) → ∀ u u' h2, am_fr [43, 44] h h2 → am_WP mX8_few 0 0 109 [some (am_R 38), some (am_I w), some (am_I S), some (am_I r), u, u'] [] ρ h2 Q := fun hr T hT hno u u' h2 hf2 => by
      refine K109 S u u' h2 hr hSb hf2 ⟨hI.1, fun d U d0 d1 d2 d3 => ?_⟩
      by_cases z : d = r
      · have := ul_uniq hT (z ▸ d3)
        rw [← this]; exact hno (z ▸ d2)
      · exact hI.2 d U d0 (md d d1 z) d2 d3
    have htake : r < N → ∀ T, ul_is P f (dg P B r) T → gr_out nx r → fw_b T S → ∀ u u' h2, am_fr [43, 44] h h2 → am_WP mX8_few 0 0 109 [some (am_R 38), some (am_I w), some (am_I T), some (am_I r), u, u'] [] ρ h2 Q := fun hr T hT ho hb u u' h2 hf2 => by
      refine K109 T u u' h2 hr ⟨hT.1, hT.2.1⟩ hf2 ⟨⟨r, Int.le_trans (by decide) r1, hr, ho, hT⟩, fun d U d0 d1 d2 d3 => ?_⟩
      by_cases z : d = r
      · have := ul_uniq hT (z ▸ d3)
        rw [← this]
        unfold fw_b
        clear hI
        omega
      · have := hI.2 d U d0 (md d d1 z) d2 d3
        unfold fw_b at this hb ⊢
        clear hI
        omega
    have hfin : ∀ v v', r = N → am_WP mX8_few 0 0 115 [some (am_R 38), some (am_I w), some (am_I S), some (am_I r), v, v'] [] ρ h1 Q := fun v v' z => K S _ _ _ h1 hf hSb ⟨hI.1, fun d T d0 d1 d2 d3 => hI.2 d T d0 (z ▸ d1) d2 d3⟩
    clear hI
    refine am_iload_n (pc' := 36) dX8_few_35 rfl rfl rfl ?_
    refine am_aload_n (pc' := 37) dX8_few_36 rfl rfl rfl ?_
    refine am_callVp (pc' := 40) (as := []) (ci := 7)  rfl dX8_few_37 rfl ok_X8_allRows ml_X8_170 im_X8_allRows se_X8_allRows rfl (Nat.le_of_ble_eq_true rfl) rfl (Nat.le_of_ble_eq_true rfl) (by first | assumption | exact ⟨by omega, by omega, rfl⟩) (t8_allRows hM hQ1.2.1) ?_
    rw [eN]
    refine am_icmp_ge (pc' := 43) (tgt := 115) dX8_few_40 rfl rfl (fun c_40 => ?_) (fun c_40 => ?_)
    · exact hfin _ _ (by omega)
    · refine am_aload_n (pc' := 44) dX8_few_43 rfl rfl rfl ?_
      refine am_iload_n (pc' := 45) dX8_few_44 rfl rfl rfl ?_
      refine am_callV0 (pc' := 48) (as := [_]) (ci := 7)  rfl dX8_few_45 rfl ok_X8_unlikeNow ml_X8_237 im_X8_unlikeNow se_X8_unlikeNow rfl (Nat.le_of_ble_eq_true rfl) rfl (Nat.le_of_ble_eq_true rfl) (by first | assumption | exact ⟨by omega, by omega, rfl⟩) (t8_unlikeNow hM hQ1.2.1 (by omega)) (fun r_45 ρ_45 h_45 q_45 g_45 e_45 => ?_)
      obtain ⟨rfl, q1, T, rfl, hT⟩ := q_45
      rw [g1, g1, eP, eB, g2] at hT
      have hTb : 0 ≤ T ∧ T < 32 := ⟨hT.1, hT.2.1⟩
      have hbT := bct_b hTb.1 hTb.2
      have hf2 : am_fr [43, 44] h h_45 := am_fr_trans hf (am_fr_sub q1 (by intro x hx; simp at hx ⊢; omega))
      have hQ2 := md_Q_fr hf2 hQ
      have hou := (hQ2.2.2.2.2.2.2.1 r (by omega) (by omega)).2
      have ho1 : h_45 49 r = 1 → gr_out nx r := fun z => by
        rcases hou with y | y
        · exact y.2
        · exact absurd (z.symm.trans y.1) (by decide)
      have ho0 : ¬ h_45 49 r = 1 → ¬ gr_out nx r := fun z => by
        rcases hou with y | y
        · exact absurd y.1 z
        · exact y.2
      refine am_istore (pc' := 50) (ls' := [_, _, _, _, _, _]) dX8_few_48 rfl (Nat.le_of_ble_eq_true rfl) rfl rfl ?_
      refine am_aload_n (pc' := 51) dX8_few_50 rfl rfl rfl ?_
      refine am_getRk (ki := 17) (pc' := 54) (k := 17) (ci := 7) rfl dX8_few_51 rfl fl_X8_40 (by first | assumption | exact ⟨by omega, by omega, rfl⟩) rfl (by assumption) (by omega) ?_
      refine am_iload_n (pc' := 55) dX8_few_54 rfl rfl rfl ?_
      refine am_iaload (pc' := 56) dX8_few_55 rfl (by first | assumption | exact ⟨by omega, by omega, rfl⟩) (by omega) (by omega) ?_
      refine am_iconst (pc' := 57) dX8_few_56 rfl rfl ?_
      refine am_icmp_ne (pc' := 60) (tgt := 94) dX8_few_57 rfl rfl (fun c_57 => ?_) (fun c_57 => ?_)
      · refine am_iconst (pc' := 95) dX8_few_94 rfl rfl ?_
        refine am_istore (pc' := 97) (ls' := [_, _, _, _, _, _]) dX8_few_95 rfl (Nat.le_of_ble_eq_true rfl) rfl rfl ?_
        refine am_iload (pc' := 99) dX8_few_97 rfl rfl ?_
        refine am_if_eq (pc' := 102) (tgt := 107) dX8_few_99 rfl rfl (fun c_99 => ?_) (fun c_99 => ?_)
        · refine am_iload_n (pc' := 108) dX8_few_107 rfl rfl rfl ?_
          refine am_istore_n (pc' := 109) (ls' := [_, _, _, _, _, _]) dX8_few_108 rfl rfl (Nat.le_of_ble_eq_true rfl) rfl rfl ?_
          first | exact htake (by omega) T hT (ho1 c_57) (by unfold fw_b; omega) _ _ _ hf2 | exact hkeep (by omega) T hT (fun _ => by unfold fw_b; omega) _ _ _ hf2 | exact hkeep (by omega) T hT (fun z => absurd z (ho0 c_57)) _ _ _ hf2 | (exfalso; omega) | fail
        · refine am_iload (pc' := 104) dX8_few_102 rfl rfl ?_
          refine am_goto (pc' := 108) dX8_few_104 rfl ?_
          refine am_istore_n (pc' := 109) (ls' := [_, _, _, _, _, _]) dX8_few_108 rfl rfl (Nat.le_of_ble_eq_true rfl) rfl rfl ?_
          first | exact htake (by omega) T hT (ho1 c_57) (by unfold fw_b; omega) _ _ _ hf2 | exact hkeep (by omega) T hT (fun _ => by unfold fw_b; omega) _ _ _ hf2 | exact hkeep (by omega) T hT (fun z => absurd z (ho0 c_57)) _ _ _ hf2 | (exfalso; omega) | fail
      · refine am_iload (pc' := 62) dX8_few_60 rfl rfl ?_
        refine am_callSp (pc' := 65) (as := [_])  rfl dX8_few_62 rfl ok_X8_bits ml_X8_240 sm_X8_bits (Nat.le_of_ble_eq_true rfl) rfl (Nat.le_of_ble_eq_true rfl) (t8_bits hTb) ?_
        refine am_iload_n (pc' := 66) dX8_few_65 rfl rfl rfl ?_
        refine am_callSp (pc' := 69) (as := [_])  rfl dX8_few_66 rfl ok_X8_bits ml_X8_240 sm_X8_bits (Nat.le_of_ble_eq_true rfl) rfl (Nat.le_of_ble_eq_true rfl) (t8_bits hSb) ?_
        refine am_icmp_lt (pc' := 72) (tgt := 90) dX8_few_69 rfl rfl (fun c_69 => ?_) (fun c_69 => ?_)
        · refine am_iconst (pc' := 91) dX8_few_90 rfl rfl ?_
          refine am_goto (pc' := 95) dX8_few_91 rfl ?_
          refine am_istore (pc' := 97) (ls' := [_, _, _, _, _, _]) dX8_few_95 rfl (Nat.le_of_ble_eq_true rfl) rfl rfl ?_
          refine am_iload (pc' := 99) dX8_few_97 rfl rfl ?_
          refine am_if_eq (pc' := 102) (tgt := 107) dX8_few_99 rfl rfl (fun c_99 => ?_) (fun c_99 => ?_)
          · refine am_iload_n (pc' := 108) dX8_few_107 rfl rfl rfl ?_
            refine am_istore_n (pc' := 109) (ls' := [_, _, _, _, _, _]) dX8_few_108 rfl rfl (Nat.le_of_ble_eq_true rfl) rfl rfl ?_
            first | exact htake (by omega) T hT (ho1 c_57) (by unfold fw_b; omega) _ _ _ hf2 | exact hkeep (by omega) T hT (fun _ => by unfold fw_b; omega) _ _ _ hf2 | exact hkeep (by omega) T hT (fun z => absurd z (ho0 c_57)) _ _ _ hf2 | (exfalso; omega) | fail
          · refine am_iload (pc' := 104) dX8_few_102 rfl rfl ?_
            refine am_goto (pc' := 108) dX8_few_104 rfl ?_
            refine am_istore_n (pc' := 109) (ls' := [_, _, _, _, _, _]) dX8_few_108 rfl rfl (Nat.le_of_ble_eq_true rfl) rfl rfl ?_
            first | exact htake (by omega) T hT (ho1 c_57) (by unfold fw_b; omega) _ _ _ hf2 | exact hkeep (by omega) T hT (fun _ => by unfold fw_b; omega) _ _ _ hf2 | exact hkeep (by omega) T hT (fun z => absurd z (ho0 c_57)) _ _ _ hf2 | (exfalso; omega) | fail
        · refine am_iload (pc' := 74) dX8_few_72 rfl rfl ?_
          refine am_callSp (pc' := 77) (as := [_])  rfl dX8_few_74 rfl ok_X8_bits ml_X8_240 sm_X8_bits (Nat.le_of_ble_eq_true rfl) rfl (Nat.le_of_ble_eq_true rfl) (t8_bits hTb) ?_
          refine am_iload_n (pc' := 78) dX8_few_77 rfl rfl rfl ?_
          refine am_callSp (pc' := 81) (as := [_])  rfl dX8_few_78 rfl ok_X8_bits ml_X8_240 sm_X8_bits (Nat.le_of_ble_eq_true rfl) rfl (Nat.le_of_ble_eq_true rfl) (t8_bits hSb) ?_
          refine am_icmp_ne (pc' := 84) (tgt := 94) dX8_few_81 rfl rfl (fun c_81 => ?_) (fun c_81 => ?_)
          · refine am_iconst (pc' := 95) dX8_few_94 rfl rfl ?_
            refine am_istore (pc' := 97) (ls' := [_, _, _, _, _, _]) dX8_few_95 rfl (Nat.le_of_ble_eq_true rfl) rfl rfl ?_
            refine am_iload (pc' := 99) dX8_few_97 rfl rfl ?_
            refine am_if_eq (pc' := 102) (tgt := 107) dX8_few_99 rfl rfl (fun c_99 => ?_) (fun c_99 => ?_)
            · refine am_iload_n (pc' := 108) dX8_few_107 rfl rfl rfl ?_
              refine am_istore_n (pc' := 109) (ls' := [_, _, _, _, _, _]) dX8_few_108 rfl rfl (Nat.le_of_ble_eq_true rfl) rfl rfl ?_
              first | exact htake (by omega) T hT (ho1 c_57) (by unfold fw_b; omega) _ _ _ hf2 | exact hkeep (by omega) T hT (fun _ => by unfold fw_b; omega) _ _ _ hf2 | exact hkeep (by omega) T hT (fun z => absurd z (ho0 c_57)) _ _ _ hf2 | (exfalso; omega) | fail
            · refine am_iload (pc' := 104) dX8_few_102 rfl rfl ?_
              refine am_goto (pc' := 108) dX8_few_104 rfl ?_
              refine am_istore_n (pc' := 109) (ls' := [_, _, _, _, _, _]) dX8_few_108 rfl rfl (Nat.le_of_ble_eq_true rfl) rfl rfl ?_
              first | exact htake (by omega) T hT (ho1 c_57) (by unfold fw_b; omega) _ _ _ hf2 | exact hkeep (by omega) T hT (fun _ => by unfold fw_b; omega) _ _ _ hf2 | exact hkeep (by omega) T hT (fun z => absurd z (ho0 c_57)) _ _ _ hf2 | (exfalso; omega) | fail
          · refine am_iload (pc' := 86) dX8_few_84 rfl rfl ?_
            refine am_iload_n (pc' := 87) dX8_few_86 rfl rfl rfl ?_
            refine am_icmp_ge (pc' := 90) (tgt := 94) dX8_few_87 rfl rfl (fun c_87 => ?_) (fun c_87 => ?_)
            · refine am_iconst (pc' := 95) dX8_few_94 rfl rfl ?_
              refine am_istore (pc' := 97) (ls' := [_, _, _, _, _, _]) dX8_few_95 rfl (Nat.le_of_ble_eq_true rfl) rfl rfl ?_
              refine am_iload (pc' := 99) dX8_few_97 rfl rfl ?_
              refine am_if_eq (pc' := 102) (tgt := 107) dX8_few_99 rfl rfl (fun c_99 => ?_) (fun c_99 => ?_)
              · refine am_iload_n (pc' := 108) dX8_few_107 rfl rfl rfl ?_
                refine am_istore_n (pc' := 109) (ls' := [_, _, _, _, _, _]) dX8_few_108 rfl rfl (Nat.le_of_ble_eq_true rfl) rfl rfl ?_
                first | exact htake (by omega) T hT (ho1 c_57) (by unfold fw_b; omega) _ _ _ hf2 | exact hkeep (by omega) T hT (fun _ => by unfold fw_b; omega) _ _ _ hf2 | exact hkeep (by omega) T hT (fun z => absurd z (ho0 c_57)) _ _ _ hf2 | (exfalso; omega) | fail
              · refine am_iload (pc' := 104) dX8_few_102 rfl rfl ?_
                refine am_goto (pc' := 108) dX8_few_104 rfl ?_
                refine am_istore_n (pc' := 109) (ls' := [_, _, _, _, _, _]) dX8_few_108 rfl rfl (Nat.le_of_ble_eq_true rfl) rfl rfl ?_
                first | exact htake (by omega) T hT (ho1 c_57) (by unfold fw_b; omega) _ _ _ hf2 | exact hkeep (by omega) T hT (fun _ => by unfold fw_b; omega) _ _ _ hf2 | exact hkeep (by omega) T hT (fun z => absurd z (ho0 c_57)) _ _ _ hf2 | (exfalso; omega) | fail
            · refine am_iconst (pc' := 91) dX8_few_90 rfl rfl ?_
              refine am_goto (pc' := 95) dX8_few_91 rfl ?_
              refine am_istore (pc' := 97) (ls' := [_, _, _, _, _, _]) dX8_few_95 rfl (Nat.le_of_ble_eq_true rfl) rfl rfl ?_
              refine am_iload (pc' := 99) dX8_few_97 rfl rfl ?_
              refine am_if_eq (pc' := 102) (tgt := 107) dX8_few_99 rfl rfl (fun c_99 => ?_) (fun c_99 => ?_)
              · refine am_iload_n (pc' := 108) dX8_few_107 rfl rfl rfl ?_
                refine am_istore_n (pc' := 109) (ls' := [_, _, _, _, _, _]) dX8_few_108 rfl rfl (Nat.le_of_ble_eq_true rfl) rfl rfl ?_
                first | exact htake (by omega) T hT (ho1 c_57) (by unfold fw_b; omega) _ _ _ hf2 | exact hkeep (by omega) T hT (fun _ => by unfold fw_b; omega) _ _ _ hf2 | exact hkeep (by omega) T hT (fun z => absurd z (ho0 c_57)) _ _ _ hf2 | (exfalso; omega) | fail
              · refine am_iload (pc' := 104) dX8_few_102 rfl rfl ?_
                refine am_goto (pc' := 108) dX8_few_104 rfl ?_
                refine am_istore_n (pc' := 109) (ls' := [_, _, _, _, _, _]) dX8_few_108 rfl rfl (Nat.le_of_ble_eq_true rfl) rfl rfl ?_
                first | exact htake (by omega) T hT (ho1 c_57) (by unfold fw_b; omega) _ _ _ hf2 | exact hkeep (by omega) T hT (fun _ => by unfold fw_b; omega) _ _ _ hf2 | exact hkeep (by omega) T hT (fun z => absurd z (ho0 c_57)) _ _ _ hf2 | (exfalso; omega) | fail
