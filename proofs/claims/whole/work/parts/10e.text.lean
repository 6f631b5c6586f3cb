/-! Text -/
def tx_on (t c b : Int) : Bool := if t = 0 then decide (c = 114) else if t = 1 then decide (50 ≤ c ∧ c ≤ 54) else if (t - 2) % 3 = 0 then decide (c = 59 ∧ (t - 2) / 3 < 5) else if (t - 2) % 3 = 1 then decide (c = 112 ∨ c = 102 ∨ c = 109) else decide (48 ≤ c ∧ c < 48 + b)
def tx_kd (c : Int) : Int := if c = 112 then 0 else if c = 102 then 1 else if c = 109 then 2 else -9
def tx_ff (c : Int → Int) (n v : Int) : Prop := (v = -9 ∧ 8 ≤ n ∧ (n - 2) % 3 = 0 ∧ ∀ t, 0 ≤ t → t < n → tx_on t (c t) (c 1 - 48) = true) ∨ (0 ≤ v ∧ v < n ∧ tx_on v (c v) (c 1 - 48) = false ∧ ∀ t, 0 ≤ t → t < v → tx_on t (c t) (c 1 - 48) = true) ∨ (v = n ∧ 0 ≤ n ∧ ¬ (8 ≤ n ∧ (n - 2) % 3 = 0) ∧ ∀ t, 0 ≤ t → t < n → tx_on t (c t) (c 1 - 48) = true)
theorem tx_ff_uniq {c : Int → Int} {n v w : Int} (h1 : tx_ff c n v) (h2 : tx_ff c n w) : v = w := by
  rcases h1 with ⟨a1, a2, a3, a4⟩ | ⟨a1, a2, a3, a4⟩ | ⟨a1, a2, a3, a4⟩ <;> rcases h2 with ⟨b1, b2, b3, b4⟩ | ⟨b1, b2, b3, b4⟩ | ⟨b1, b2, b3, b4⟩
  · omega
  · have := a4 w b1 b2; rw [b3] at this; cases this
  · omega
  · have := b4 v a1 a2; rw [a3] at this; cases this
  · rcases Int.lt_trichotomy v w with z | z | z
    · have := b4 v a1 z; rw [a3] at this; cases this
    · exact z
    · have := a4 w b1 z; rw [b3] at this; cases this
  · have := b4 v a1 a2; rw [a3] at this; cases this
  · omega
  · have := a4 w b1 b2; rw [b3] at this; cases this
  · omega
theorem tx_n17 {c : Int → Int} {n : Int} (h8 : 8 ≤ n) (hm : (n - 2) % 3 = 0) (h : ∀ t, 0 ≤ t → t < n → tx_on t (c t) (c 1 - 48) = true) : n ≤ 17 := by
  by_cases h1 : n ≤ 17
  · exact h1
  · have := h 17 (by omega) (by omega)
    simp [tx_on] at this
theorem t_kindOf {ρ h : am_H} {c : Int} : am_CT mX6_kindOf 0 0 [am_I c] ρ h (am_P (am_I (tx_kd c)) ρ h) := by
  refine am_ct (ls := [some (am_I c)]) ok_X6_kindOf rfl (fun _ => Nat.le_of_ble_eq_true rfl) (fun _ => rfl) (by intro v hv; simpa using hv) ?_
  refine am_iload_n (pc' := 1) dX6_kindOf_0 rfl rfl rfl ?_
  refine am_case (102) (fun c_1_0 => ?_) (fun c_1_0 => ?_)
  · refine am_look (pc' := 38) (off := 37) dX6_kindOf_1 rfl rfl rfl ?_
    refine am_iconst (pc' := 39) dX6_kindOf_38 rfl rfl ?_
    refine am_reti dX6_kindOf_39 rfl ?_
    exact ⟨by unfold tx_kd; simp [*], rfl, rfl⟩
  refine am_case (109) (fun c_1_1 => ?_) (fun c_1_1 => ?_)
  · refine am_look (pc' := 40) (off := 39) dX6_kindOf_1 rfl rfl rfl ?_
    refine am_iconst (pc' := 41) dX6_kindOf_40 rfl rfl ?_
    refine am_reti dX6_kindOf_41 rfl ?_
    exact ⟨by unfold tx_kd; simp [*], rfl, rfl⟩
  refine am_case (112) (fun c_1_2 => ?_) (fun c_1_2 => ?_)
  · refine am_look (pc' := 36) (off := 35) dX6_kindOf_1 rfl rfl rfl ?_
    refine am_iconst (pc' := 37) dX6_kindOf_36 rfl rfl ?_
    refine am_reti dX6_kindOf_37 rfl ?_
    exact ⟨by unfold tx_kd; simp [*], rfl, rfl⟩
  refine am_look (pc' := 42) (off := 41) dX6_kindOf_1 rfl (by simp [Op.lookupswitch.offset, Ne.symm, c_1_0, c_1_1, c_1_2]) rfl ?_
  refine am_bipush (pc' := 44) dX6_kindOf_42 rfl rfl (by decide) ?_
  refine am_reti dX6_kindOf_44 rfl ?_
  exact ⟨by unfold tx_kd; simp [*], rfl, rfl⟩
theorem t_goesOn {ρ h : am_H} {t c b : Int} (ht : 0 ≤ t ∧ t ≤ 1000) (hb : -1000 ≤ b ∧ b ≤ 1000) : am_CT mX6_goesOn 0 0 [am_I t, am_I c, am_I b] ρ h (am_P (am_I (if tx_on t c b = true then 1 else 0)) ρ h) := by
  refine am_ct (ls := [some (am_I t), some (am_I c), some (am_I b)]) ok_X6_goesOn rfl (fun _ => Nat.le_of_ble_eq_true rfl) (fun _ => rfl) (by intro v hv; simpa using hv) ?_
  refine am_iload_n (pc' := 1) dX6_goesOn_0 rfl rfl rfl ?_
  refine am_if_ne (pc' := 4) (tgt := 16) dX6_goesOn_1 rfl rfl (fun c_1 => ?_) (fun c_1 => ?_)
  · refine am_iload_n (pc' := 17) dX6_goesOn_16 rfl rfl rfl ?_
    refine am_iconst (pc' := 18) dX6_goesOn_17 rfl rfl ?_
    refine am_icmp_ne (pc' := 21) (tgt := 39) dX6_goesOn_18 rfl rfl (fun c_18 => ?_) (fun c_18 => ?_)
    · refine am_iload_n (pc' := 40) dX6_goesOn_39 rfl rfl rfl ?_
      refine am_iconst (pc' := 41) dX6_goesOn_40 rfl rfl ?_
      refine am_isub (pc' := 42) dX6_goesOn_41 rfl ⟨by omega, by omega⟩ ?_
      refine am_iconst (pc' := 43) dX6_goesOn_42 rfl rfl ?_
      refine am_irem (pc' := 44) dX6_goesOn_43 rfl (by omega) (by omega) ?_
      refine am_case (0) (fun c_44_0 => ?_) (fun c_44_0 => ?_)
      · refine am_look (pc' := 72) (off := 28) dX6_goesOn_44 rfl rfl rfl ?_
        refine am_iload_n (pc' := 73) dX6_goesOn_72 rfl rfl rfl ?_
        refine am_bipush (pc' := 75) dX6_goesOn_73 rfl rfl (by decide) ?_
        refine am_icmp_ne (pc' := 78) (tgt := 91) dX6_goesOn_75 rfl rfl (fun c_75 => ?_) (fun c_75 => ?_)
        · refine am_iconst (pc' := 92) dX6_goesOn_91 rfl rfl ?_
          refine am_retz dX6_goesOn_92 rfl (by first | exact Or.inl rfl | exact Or.inr rfl | omega) ?_
          exact ⟨by first | rw [if_pos (show tx_on t c b = true by unfold tx_on; rw [if_neg (by omega), if_neg (by omega), if_pos (by omega)]; simp only [decide_eq_true_eq]; omega)] | rw [if_neg (show ¬ tx_on t c b = true by unfold tx_on; rw [if_neg (by omega), if_neg (by omega), if_pos (by omega)]; simp only [decide_eq_true_eq]; omega)], rfl, rfl⟩
        · refine am_iload_n (pc' := 79) dX6_goesOn_78 rfl rfl rfl ?_
          refine am_iconst (pc' := 80) dX6_goesOn_79 rfl rfl ?_
          refine am_isub (pc' := 81) dX6_goesOn_80 rfl ⟨by omega, by omega⟩ ?_
          refine am_iconst (pc' := 82) dX6_goesOn_81 rfl rfl ?_
          refine am_idiv (pc' := 83) dX6_goesOn_82 rfl (by omega) (by omega) ?_
          refine am_iconst (pc' := 84) dX6_goesOn_83 rfl rfl ?_
          refine am_icmp_ge (pc' := 87) (tgt := 91) dX6_goesOn_84 rfl rfl (fun c_84 => ?_) (fun c_84 => ?_)
          · refine am_iconst (pc' := 92) dX6_goesOn_91 rfl rfl ?_
            refine am_retz dX6_goesOn_92 rfl (by first | exact Or.inl rfl | exact Or.inr rfl | omega) ?_
            exact ⟨by first | rw [if_pos (show tx_on t c b = true by unfold tx_on; rw [if_neg (by omega), if_neg (by omega), if_pos (by omega)]; simp only [decide_eq_true_eq]; omega)] | rw [if_neg (show ¬ tx_on t c b = true by unfold tx_on; rw [if_neg (by omega), if_neg (by omega), if_pos (by omega)]; simp only [decide_eq_true_eq]; omega)], rfl, rfl⟩
          · refine am_iconst (pc' := 88) dX6_goesOn_87 rfl rfl ?_
            refine am_goto (pc' := 92) dX6_goesOn_88 rfl ?_
            refine am_retz dX6_goesOn_92 rfl (by first | exact Or.inl rfl | exact Or.inr rfl | omega) ?_
            exact ⟨by first | rw [if_pos (show tx_on t c b = true by unfold tx_on; rw [if_neg (by omega), if_neg (by omega), if_pos (by omega)]; simp only [decide_eq_true_eq]; omega)] | rw [if_neg (show ¬ tx_on t c b = true by unfold tx_on; rw [if_neg (by omega), if_neg (by omega), if_pos (by omega)]; simp only [decide_eq_true_eq]; omega)], rfl, rfl⟩
      refine am_case (1) (fun c_44_1 => ?_) (fun c_44_1 => ?_)
      · refine am_look (pc' := 93) (off := 49) dX6_goesOn_44 rfl rfl rfl ?_
        refine am_iload_n (pc' := 94) dX6_goesOn_93 rfl rfl rfl ?_
        refine am_callSp (pc' := 97) (as := [_])  rfl dX6_goesOn_94 rfl ok_X6_kindOf ml_X6_21 sm_X6_kindOf (Nat.le_of_ble_eq_true rfl) rfl (Nat.le_of_ble_eq_true rfl) (t_kindOf) ?_
        refine am_bipush (pc' := 99) dX6_goesOn_97 rfl rfl (by decide) ?_
        refine am_icmp_eq (pc' := 102) (tgt := 106) dX6_goesOn_99 rfl rfl (fun c_99 => ?_) (fun c_99 => ?_)
        · have ck : c ≠ 112 ∧ c ≠ 102 ∧ c ≠ 109 := by refine ⟨?_, ?_, ?_⟩ <;> (intro z; rw [z] at c_99; exact absurd c_99 (by decide))
          refine am_iconst (pc' := 107) dX6_goesOn_106 rfl rfl ?_
          refine am_retz dX6_goesOn_107 rfl (by first | exact Or.inl rfl | exact Or.inr rfl | omega) ?_
          exact ⟨by first | rw [if_pos (show tx_on t c b = true by unfold tx_on; rw [if_neg (by omega), if_neg (by omega), if_neg (by omega), if_pos (by omega)]; simp only [decide_eq_true_eq]; omega)] | rw [if_neg (show ¬ tx_on t c b = true by unfold tx_on; rw [if_neg (by omega), if_neg (by omega), if_neg (by omega), if_pos (by omega)]; simp only [decide_eq_true_eq]; omega)], rfl, rfl⟩
        · have ck : ¬ (c ≠ 112 ∧ c ≠ 102 ∧ c ≠ 109) := by unfold tx_kd at c_99; rintro ⟨z1, z2, z3⟩; simp [z1, z2, z3] at c_99
          refine am_iconst (pc' := 103) dX6_goesOn_102 rfl rfl ?_
          refine am_goto (pc' := 107) dX6_goesOn_103 rfl ?_
          refine am_retz dX6_goesOn_107 rfl (by first | exact Or.inl rfl | exact Or.inr rfl | omega) ?_
          exact ⟨by first | rw [if_pos (show tx_on t c b = true by unfold tx_on; rw [if_neg (by omega), if_neg (by omega), if_neg (by omega), if_pos (by omega)]; simp only [decide_eq_true_eq]; omega)] | rw [if_neg (show ¬ tx_on t c b = true by unfold tx_on; rw [if_neg (by omega), if_neg (by omega), if_neg (by omega), if_pos (by omega)]; simp only [decide_eq_true_eq]; omega)], rfl, rfl⟩
      refine am_look (pc' := 108) (off := 64) dX6_goesOn_44 rfl (by simp [Op.lookupswitch.offset, Ne.symm, c_44_0, c_44_1]) rfl ?_
      refine am_iload_n (pc' := 109) dX6_goesOn_108 rfl rfl rfl ?_
      refine am_bipush (pc' := 111) dX6_goesOn_109 rfl rfl (by decide) ?_
      refine am_icmp_lt (pc' := 114) (tgt := 126) dX6_goesOn_111 rfl rfl (fun c_111 => ?_) (fun c_111 => ?_)
      · refine am_iconst (pc' := 127) dX6_goesOn_126 rfl rfl ?_
        refine am_retz dX6_goesOn_127 rfl (by first | exact Or.inl rfl | exact Or.inr rfl | omega) ?_
        exact ⟨by first | rw [if_pos (show tx_on t c b = true by unfold tx_on; rw [if_neg (by omega), if_neg (by omega), if_neg (by omega), if_neg (by omega)]; simp only [decide_eq_true_eq]; omega)] | rw [if_neg (show ¬ tx_on t c b = true by unfold tx_on; rw [if_neg (by omega), if_neg (by omega), if_neg (by omega), if_neg (by omega)]; simp only [decide_eq_true_eq]; omega)], rfl, rfl⟩
      · refine am_iload_n (pc' := 115) dX6_goesOn_114 rfl rfl rfl ?_
        refine am_bipush (pc' := 117) dX6_goesOn_115 rfl rfl (by decide) ?_
        refine am_iload_n (pc' := 118) dX6_goesOn_117 rfl rfl rfl ?_
        refine am_iadd (pc' := 119) dX6_goesOn_118 rfl ⟨by omega, by omega⟩ ?_
        refine am_icmp_ge (pc' := 122) (tgt := 126) dX6_goesOn_119 rfl rfl (fun c_119 => ?_) (fun c_119 => ?_)
        · refine am_iconst (pc' := 127) dX6_goesOn_126 rfl rfl ?_
          refine am_retz dX6_goesOn_127 rfl (by first | exact Or.inl rfl | exact Or.inr rfl | omega) ?_
          exact ⟨by first | rw [if_pos (show tx_on t c b = true by unfold tx_on; rw [if_neg (by omega), if_neg (by omega), if_neg (by omega), if_neg (by omega)]; simp only [decide_eq_true_eq]; omega)] | rw [if_neg (show ¬ tx_on t c b = true by unfold tx_on; rw [if_neg (by omega), if_neg (by omega), if_neg (by omega), if_neg (by omega)]; simp only [decide_eq_true_eq]; omega)], rfl, rfl⟩
        · refine am_iconst (pc' := 123) dX6_goesOn_122 rfl rfl ?_
          refine am_goto (pc' := 127) dX6_goesOn_123 rfl ?_
          refine am_retz dX6_goesOn_127 rfl (by first | exact Or.inl rfl | exact Or.inr rfl | omega) ?_
          exact ⟨by first | rw [if_pos (show tx_on t c b = true by unfold tx_on; rw [if_neg (by omega), if_neg (by omega), if_neg (by omega), if_neg (by omega)]; simp only [decide_eq_true_eq]; omega)] | rw [if_neg (show ¬ tx_on t c b = true by unfold tx_on; rw [if_neg (by omega), if_neg (by omega), if_neg (by omega), if_neg (by omega)]; simp only [decide_eq_true_eq]; omega)], rfl, rfl⟩
    · refine am_iload_n (pc' := 22) dX6_goesOn_21 rfl rfl rfl ?_
      refine am_bipush (pc' := 24) dX6_goesOn_22 rfl rfl (by decide) ?_
      refine am_icmp_lt (pc' := 27) (tgt := 37) dX6_goesOn_24 rfl rfl (fun c_24 => ?_) (fun c_24 => ?_)
      · refine am_iconst (pc' := 38) dX6_goesOn_37 rfl rfl ?_
        refine am_retz dX6_goesOn_38 rfl (by first | exact Or.inl rfl | exact Or.inr rfl | omega) ?_
        exact ⟨by first | rw [if_pos (show tx_on t c b = true by unfold tx_on; rw [if_neg (by omega), if_pos (by omega)]; simp only [decide_eq_true_eq]; omega)] | rw [if_neg (show ¬ tx_on t c b = true by unfold tx_on; rw [if_neg (by omega), if_pos (by omega)]; simp only [decide_eq_true_eq]; omega)], rfl, rfl⟩
      · refine am_iload_n (pc' := 28) dX6_goesOn_27 rfl rfl rfl ?_
        refine am_bipush (pc' := 30) dX6_goesOn_28 rfl rfl (by decide) ?_
        refine am_icmp_gt (pc' := 33) (tgt := 37) dX6_goesOn_30 rfl rfl (fun c_30 => ?_) (fun c_30 => ?_)
        · refine am_iconst (pc' := 38) dX6_goesOn_37 rfl rfl ?_
          refine am_retz dX6_goesOn_38 rfl (by first | exact Or.inl rfl | exact Or.inr rfl | omega) ?_
          exact ⟨by first | rw [if_pos (show tx_on t c b = true by unfold tx_on; rw [if_neg (by omega), if_pos (by omega)]; simp only [decide_eq_true_eq]; omega)] | rw [if_neg (show ¬ tx_on t c b = true by unfold tx_on; rw [if_neg (by omega), if_pos (by omega)]; simp only [decide_eq_true_eq]; omega)], rfl, rfl⟩
        · refine am_iconst (pc' := 34) dX6_goesOn_33 rfl rfl ?_
          refine am_goto (pc' := 38) dX6_goesOn_34 rfl ?_
          refine am_retz dX6_goesOn_38 rfl (by first | exact Or.inl rfl | exact Or.inr rfl | omega) ?_
          exact ⟨by first | rw [if_pos (show tx_on t c b = true by unfold tx_on; rw [if_neg (by omega), if_pos (by omega)]; simp only [decide_eq_true_eq]; omega)] | rw [if_neg (show ¬ tx_on t c b = true by unfold tx_on; rw [if_neg (by omega), if_pos (by omega)]; simp only [decide_eq_true_eq]; omega)], rfl, rfl⟩
  · refine am_iload_n (pc' := 5) dX6_goesOn_4 rfl rfl rfl ?_
    refine am_bipush (pc' := 7) dX6_goesOn_5 rfl rfl (by decide) ?_
    refine am_icmp_ne (pc' := 10) (tgt := 14) dX6_goesOn_7 rfl rfl (fun c_7 => ?_) (fun c_7 => ?_)
    · refine am_iconst (pc' := 15) dX6_goesOn_14 rfl rfl ?_
      refine am_retz dX6_goesOn_15 rfl (by first | exact Or.inl rfl | exact Or.inr rfl | omega) ?_
      exact ⟨by simp [tx_on, *], rfl, rfl⟩
    · refine am_iconst (pc' := 11) dX6_goesOn_10 rfl rfl ?_
      refine am_goto (pc' := 15) dX6_goesOn_11 rfl ?_
      refine am_retz dX6_goesOn_15 rfl (by first | exact Or.inl rfl | exact Or.inr rfl | omega) ?_
      exact ⟨by simp [tx_on, *], rfl, rfl⟩
theorem t_firstFault_l {ρ h : am_H} {x i n : Int} {Q : am_Q} (hS : am_SA ρ x) (hO : am_SO h x) (hi : 0 ≤ i ∧ i ≤ 60) (hn : 0 ≤ n ∧ n ≤ 60) (hq : ∀ v, tx_ff (fun t => sh_at h x (i + t)) n v → Q (some (am_I v)) ρ h) :
    ∀ (k : Nat) (t b : Int) (v : Option am_V), (n - t).toNat < k → 0 ≤ t → t ≤ n → (t < 2 ∧ b = 0 ∨ 2 ≤ t ∧ b = sh_at h x (i + 1) - 48 ∧ 2 ≤ b ∧ b ≤ 6) → (∀ q, 0 ≤ q → q < t → tx_on q (sh_at h x (i + q)) (sh_at h x (i + 1) - 48) = true) → am_WP mX6_firstFault 0 0 5 [some (am_R x), some (am_I i), some (am_I n), some (am_I b), some (am_I t), v] [] ρ h Q := by
  obtain ⟨i1, i2, e1, l1⟩ := id hS
  have x0 := i1.1
  intro k
  induction k with
  | zero => intro t b v hk; omega
  | succ k ih =>
    intro t b v hk h0 ht hb hall
    have hon : tx_on t (sh_at h x (i + t)) b = tx_on t (sh_at h x (i + t)) (sh_at h x (i + 1) - 48) := by
      unfold tx_on
      rcases hb with ⟨z1, z2⟩ | ⟨z1, z2, z3⟩
      · by_cases z : t = 0
        · rw [if_pos z, if_pos z]
        · rw [if_neg z, if_neg z, if_pos (by omega), if_pos (by omega)]
      · rw [z2]
    refine am_iload (pc' := 7) dX6_firstFault_5 rfl rfl ?_
    refine am_iload_n (pc' := 8) dX6_firstFault_7 rfl rfl rfl ?_
    refine am_icmp_ge (pc' := 11) (tgt := 53) dX6_firstFault_8 rfl rfl (fun c_8 => ?_) (fun c_8 => ?_)
    · have en : t = n := by omega
      subst en
      refine am_iload_n (pc' := 54) dX6_firstFault_53 rfl rfl rfl ?_
      refine am_bipush (pc' := 56) dX6_firstFault_54 rfl rfl (by decide) ?_
      refine am_icmp_lt (pc' := 59) (tgt := 71) dX6_firstFault_56 rfl rfl (fun c_56 => ?_) (fun c_56 => ?_)
      · refine am_iconst (pc' := 72) dX6_firstFault_71 rfl rfl ?_
        refine am_istore (pc' := 74) (ls' := [_, _, _, _, _, _]) dX6_firstFault_72 rfl (Nat.le_of_ble_eq_true rfl) rfl rfl ?_
        refine am_iload (pc' := 76) dX6_firstFault_74 rfl rfl ?_
        refine am_if_eq (pc' := 79) (tgt := 84) dX6_firstFault_76 rfl rfl (fun c_76 => ?_) (fun c_76 => ?_)
        · refine am_iload_n (pc' := 85) dX6_firstFault_84 rfl rfl rfl ?_
          refine am_reti dX6_firstFault_85 rfl ?_
          first | exact hq _ (Or.inl ⟨rfl, by omega, by omega, hall⟩) | exact hq _ (Or.inr (Or.inr ⟨rfl, by omega, by omega, hall⟩)) | omega
        · refine am_bipush (pc' := 81) dX6_firstFault_79 rfl rfl (by decide) ?_
          refine am_goto (pc' := 85) dX6_firstFault_81 rfl ?_
          refine am_reti dX6_firstFault_85 rfl ?_
          first | exact hq _ (Or.inl ⟨rfl, by omega, by omega, hall⟩) | exact hq _ (Or.inr (Or.inr ⟨rfl, by omega, by omega, hall⟩)) | omega
      · refine am_iload_n (pc' := 60) dX6_firstFault_59 rfl rfl rfl ?_
        refine am_iconst (pc' := 61) dX6_firstFault_60 rfl rfl ?_
        refine am_isub (pc' := 62) dX6_firstFault_61 rfl ⟨by omega, by omega⟩ ?_
        refine am_iconst (pc' := 63) dX6_firstFault_62 rfl rfl ?_
        refine am_irem (pc' := 64) dX6_firstFault_63 rfl (by omega) (by omega) ?_
        refine am_if_ne (pc' := 67) (tgt := 71) dX6_firstFault_64 rfl rfl (fun c_64 => ?_) (fun c_64 => ?_)
        · refine am_iconst (pc' := 72) dX6_firstFault_71 rfl rfl ?_
          refine am_istore (pc' := 74) (ls' := [_, _, _, _, _, _]) dX6_firstFault_72 rfl (Nat.le_of_ble_eq_true rfl) rfl rfl ?_
          refine am_iload (pc' := 76) dX6_firstFault_74 rfl rfl ?_
          refine am_if_eq (pc' := 79) (tgt := 84) dX6_firstFault_76 rfl rfl (fun c_76 => ?_) (fun c_76 => ?_)
          · refine am_iload_n (pc' := 85) dX6_firstFault_84 rfl rfl rfl ?_
            refine am_reti dX6_firstFault_85 rfl ?_
            first | exact hq _ (Or.inl ⟨rfl, by omega, by omega, hall⟩) | exact hq _ (Or.inr (Or.inr ⟨rfl, by omega, by omega, hall⟩)) | omega
          · refine am_bipush (pc' := 81) dX6_firstFault_79 rfl rfl (by decide) ?_
            refine am_goto (pc' := 85) dX6_firstFault_81 rfl ?_
            refine am_reti dX6_firstFault_85 rfl ?_
            first | exact hq _ (Or.inl ⟨rfl, by omega, by omega, hall⟩) | exact hq _ (Or.inr (Or.inr ⟨rfl, by omega, by omega, hall⟩)) | omega
        · refine am_iconst (pc' := 68) dX6_firstFault_67 rfl rfl ?_
          refine am_goto (pc' := 72) dX6_firstFault_68 rfl ?_
          refine am_istore (pc' := 74) (ls' := [_, _, _, _, _, _]) dX6_firstFault_72 rfl (Nat.le_of_ble_eq_true rfl) rfl rfl ?_
          refine am_iload (pc' := 76) dX6_firstFault_74 rfl rfl ?_
          refine am_if_eq (pc' := 79) (tgt := 84) dX6_firstFault_76 rfl rfl (fun c_76 => ?_) (fun c_76 => ?_)
          · refine am_iload_n (pc' := 85) dX6_firstFault_84 rfl rfl rfl ?_
            refine am_reti dX6_firstFault_85 rfl ?_
            first | exact hq _ (Or.inl ⟨rfl, by omega, by omega, hall⟩) | exact hq _ (Or.inr (Or.inr ⟨rfl, by omega, by omega, hall⟩)) | omega
          · refine am_bipush (pc' := 81) dX6_firstFault_79 rfl rfl (by decide) ?_
            refine am_goto (pc' := 85) dX6_firstFault_81 rfl ?_
            refine am_reti dX6_firstFault_85 rfl ?_
            first | exact hq _ (Or.inl ⟨rfl, by omega, by omega, hall⟩) | exact hq _ (Or.inr (Or.inr ⟨rfl, by omega, by omega, hall⟩)) | omega
    · refine am_aload_n (pc' := 12) dX6_firstFault_11 rfl rfl rfl ?_
      refine am_iload_n (pc' := 13) dX6_firstFault_12 rfl rfl rfl ?_
      refine am_iload (pc' := 15) dX6_firstFault_13 rfl rfl ?_
      refine am_iadd (pc' := 16) dX6_firstFault_15 rfl ⟨by omega, by omega⟩ ?_
      refine am_callVp (pc' := 19) (as := [_]) (ci := 4)  rfl dX6_firstFault_16 rfl ok_X4_at ml_X6_9 im_X4_at se_X4_at rfl (Nat.le_of_ble_eq_true rfl) rfl (Nat.le_of_ble_eq_true rfl) (by first | assumption | exact ⟨by omega, by omega, rfl⟩) (t_at hS hO) ?_
      refine am_istore (pc' := 21) (ls' := [_, _, _, _, _, _]) dX6_firstFault_19 rfl (Nat.le_of_ble_eq_true rfl) rfl rfl ?_
      refine am_iload (pc' := 23) dX6_firstFault_21 rfl rfl ?_
      refine am_iload (pc' := 25) dX6_firstFault_23 rfl rfl ?_
      refine am_iload_n (pc' := 26) dX6_firstFault_25 rfl rfl rfl ?_
      refine am_callSp (pc' := 29) (as := [_, _, _])  rfl dX6_firstFault_26 rfl ok_X6_goesOn ml_X6_15 sm_X6_goesOn (Nat.le_of_ble_eq_true rfl) rfl (Nat.le_of_ble_eq_true rfl) (t_goesOn (by omega) (by omega)) ?_
      refine am_if_ne (pc' := 32) (tgt := 35) dX6_firstFault_29 rfl rfl (fun c_29 => ?_) (fun c_29 => ?_)
      · simp only [am_z0, am_z1, ne_eq] at c_29
        rw [hon] at c_29
        refine am_iload (pc' := 37) dX6_firstFault_35 rfl rfl ?_
        refine am_iconst (pc' := 38) dX6_firstFault_37 rfl rfl ?_
        refine am_icmp_ne (pc' := 41) (tgt := 47) dX6_firstFault_38 rfl rfl (fun c_38 => ?_) (fun c_38 => ?_)
        · refine am_iinc (pc' := 50) (ls' := [_, _, _, _, _, _]) dX6_firstFault_47 rfl rfl ⟨by omega, by omega⟩ (Nat.le_of_ble_eq_true rfl) rfl rfl ?_
          refine am_goto (pc' := 5) dX6_firstFault_50 rfl ?_
          exact ih _ _ _ (by omega) (by omega) (by omega) (by omega) (am_upto hall c_29)
        · subst c_38
          have hb1 : 50 ≤ sh_at h x (i + 1) ∧ sh_at h x (i + 1) ≤ 54 := by simpa [tx_on] using c_29
          refine am_iload (pc' := 43) dX6_firstFault_41 rfl rfl ?_
          refine am_bipush (pc' := 45) dX6_firstFault_43 rfl rfl (by decide) ?_
          refine am_isub (pc' := 46) dX6_firstFault_45 rfl ⟨by omega, by omega⟩ ?_
          refine am_istore_n (pc' := 47) (ls' := [_, _, _, _, _, _]) dX6_firstFault_46 rfl rfl (Nat.le_of_ble_eq_true rfl) rfl rfl ?_
          refine am_iinc (pc' := 50) (ls' := [_, _, _, _, _, _]) dX6_firstFault_47 rfl rfl ⟨by omega, by omega⟩ (Nat.le_of_ble_eq_true rfl) rfl rfl ?_
          refine am_goto (pc' := 5) dX6_firstFault_50 rfl ?_
          exact ih _ _ _ (by omega) (by omega) (by omega) (by omega) (am_upto hall c_29)
      · simp only [am_z0, am_z1, ne_eq] at c_29
        rw [hon] at c_29
        refine am_iload (pc' := 34) dX6_firstFault_32 rfl rfl ?_
        refine am_reti dX6_firstFault_34 rfl ?_
        exact hq t (Or.inr (Or.inl ⟨h0, by omega, by simpa using c_29, hall⟩))
theorem t_firstFault {ρ h : am_H} {x i n : Int} (hS : am_SA ρ x) (hO : am_SO h x) (hi : 0 ≤ i ∧ i ≤ 60) (hn : 0 ≤ n ∧ n ≤ 60) : am_CT mX6_firstFault 0 0 [am_R x, am_I i, am_I n] ρ h (fun r ρ' h' => ρ' = ρ ∧ h' = h ∧ ∃ v, r = some (am_I v) ∧ tx_ff (fun t => sh_at h x (i + t)) n v) := by
  refine am_ct (ls := [some (am_R x), some (am_I i), some (am_I n), none, none, none]) ok_X6_firstFault rfl (fun _ => Nat.le_of_ble_eq_true rfl) (fun _ => rfl) (by intro v hv; simpa using hv) ?_
  refine am_iconst (pc' := 1) dX6_firstFault_0 rfl rfl ?_
  refine am_istore_n (pc' := 2) (ls' := [_, _, _, _, _, _]) dX6_firstFault_1 rfl rfl (Nat.le_of_ble_eq_true rfl) rfl rfl ?_
  refine am_iconst (pc' := 3) dX6_firstFault_2 rfl rfl ?_
  refine am_istore (pc' := 5) (ls' := [_, _, _, _, _, _]) dX6_firstFault_3 rfl (Nat.le_of_ble_eq_true rfl) rfl rfl ?_
  exact t_firstFault_l hS hO hi hn (fun v hv => ⟨rfl, rfl, v, rfl, hv⟩) (n.toNat + 1) 0 0 _ (by omega) (by omega) (by omega) (Or.inl (by omega)) (fun q z0 z1 => by omega)
theorem t_take_l {ρ h : am_H} {x i n r P : Int} {Q : am_Q} (hS : am_SA ρ x) (hO : am_SO h x) (hR : am_RA ρ r) (hne : x + 1 < r ∨ r + 3 < x) (hi : 0 ≤ i ∧ i ≤ 60) (hP : 2 ≤ P ∧ P ≤ 5) (hc : ∀ p, 0 ≤ p → p < P → 48 ≤ sh_at h x (i + (2 + 3 * p + 2)) ∧ sh_at h x (i + (2 + 3 * p + 2)) ≤ 57)
    (hq : ∀ h1, am_fr [r, r + 1, r + 2] h h1 → h1 r 0 = sh_at h x (i + 1) - 48 → h1 r 1 = P → (∀ p, 0 ≤ p → p < P → h1 (r + 1) p = tx_kd (sh_at h x (i + (2 + 3 * p + 1))) ∧ h1 (r + 2) p = sh_at h x (i + (2 + 3 * p + 2)) - 48) → Q none ρ h1) :
    ∀ (k : Nat) (p : Int) (h1 : am_H) (v : Option am_V), (P - p).toNat < k → 0 ≤ p → p ≤ P → am_fr [r, r + 1, r + 2] h h1 → h1 r 0 = sh_at h x (i + 1) - 48 → h1 r 1 = P → (∀ q, 0 ≤ q → q < p → h1 (r + 1) q = tx_kd (sh_at h x (i + (2 + 3 * q + 1))) ∧ h1 (r + 2) q = sh_at h x (i + (2 + 3 * q + 2)) - 48) → am_WP mX6_take 0 0 30 [some (am_R x), some (am_I i), some (am_I n), some (am_R r), some (am_I p), v] [] ρ h1 Q := by
  obtain ⟨i1, i2, i3, i4, ⟨e1, e2, e3⟩, l1, l2, l3⟩ := id hR
  obtain ⟨j1, j2, f1, m1⟩ := id hS
  have r0 := i1.1
  have x0 := j1.1
  intro k
  induction k with
  | zero => intro p h1 v hk; omega
  | succ k ih =>
    intro p h1 v hk h0 hp hf hb hs hall
    have gat : ∀ j h2, am_fr [r, r + 1, r + 2] h h2 → sh_at h2 x j = sh_at h x j := fun j h2 hf2 => by unfold sh_at; rw [hf2 x 1 (by simp <;> omega), hf2 (x + 1) j (by simp <;> omega)]
    have gso : ∀ h2, am_fr [r, r + 1, r + 2] h h2 → am_SO h2 x := fun h2 hf2 => by unfold am_SO; rw [hf2 x 1 (by simp <;> omega)]; exact hO
    refine am_iload (pc' := 32) dX6_take_30 rfl rfl ?_
    refine am_aload_n (pc' := 33) dX6_take_32 rfl rfl rfl ?_
    refine am_getIk (ki := 1) (pc' := 36) (k := 1) (ci := 3) rfl dX6_take_33 rfl fl_X6_36 (by first | assumption | exact ⟨by omega, by omega, rfl⟩) rfl ?_
    refine am_icmp_ge (pc' := 39) (tgt := 91) dX6_take_36 rfl rfl (fun c_36 => ?_) (fun c_36 => ?_)
    · refine am_retv dX6_take_91 rfl ?_
      have e9 : p = P := by omega
      subst e9; exact hq h1 hf hb hs hall
    · have hcp := hc p h0 (by omega)
      refine am_iload_n (pc' := 40) dX6_take_39 rfl rfl rfl ?_
      refine am_iconst (pc' := 41) dX6_take_40 rfl rfl ?_
      refine am_iadd (pc' := 42) dX6_take_41 rfl ⟨by omega, by omega⟩ ?_
      refine am_iconst (pc' := 43) dX6_take_42 rfl rfl ?_
      refine am_iload (pc' := 45) dX6_take_43 rfl rfl ?_
      refine am_imul (pc' := 46) dX6_take_45 rfl ⟨by omega, by omega⟩ ?_
      refine am_iadd (pc' := 47) dX6_take_46 rfl ⟨by omega, by omega⟩ ?_
      refine am_istore (pc' := 49) (ls' := [_, _, _, _, _, _]) dX6_take_47 rfl (Nat.le_of_ble_eq_true rfl) rfl rfl ?_
      refine am_aload_n (pc' := 50) dX6_take_49 rfl rfl rfl ?_
      refine am_getRk (ki := 2) (pc' := 53) (k := 2) (ci := 3) rfl dX6_take_50 rfl fl_X6_39 (by first | assumption | exact ⟨by omega, by omega, rfl⟩) rfl (by assumption) (by omega) ?_
      refine am_iload (pc' := 55) dX6_take_53 rfl rfl ?_
      refine am_aload_n (pc' := 56) dX6_take_55 rfl rfl rfl ?_
      refine am_iload (pc' := 58) dX6_take_56 rfl rfl ?_
      refine am_iconst (pc' := 59) dX6_take_58 rfl rfl ?_
      refine am_iadd (pc' := 60) dX6_take_59 rfl ⟨by omega, by omega⟩ ?_
      refine am_callVp (pc' := 63) (as := [_]) (ci := 4)  rfl dX6_take_60 rfl ok_X4_at ml_X6_9 im_X4_at se_X4_at rfl (Nat.le_of_ble_eq_true rfl) rfl (Nat.le_of_ble_eq_true rfl) (by first | assumption | exact ⟨by omega, by omega, rfl⟩) (t_at hS (gso _ hf)) ?_
      refine am_callSp (pc' := 66) (as := [_])  rfl dX6_take_63 rfl ok_X6_kindOf ml_X6_21 sm_X6_kindOf (Nat.le_of_ble_eq_true rfl) rfl (Nat.le_of_ble_eq_true rfl) (t_kindOf) ?_
      refine am_iastore (pc' := 67) dX6_take_66 rfl (by first | assumption | exact ⟨by omega, by omega, rfl⟩) (by omega) (by omega) ?_
      refine am_aload_n (pc' := 68) dX6_take_67 rfl rfl rfl ?_
      refine am_getRk (ki := 3) (pc' := 71) (k := 3) (ci := 3) rfl dX6_take_68 rfl fl_X6_43 (by first | assumption | exact ⟨by omega, by omega, rfl⟩) rfl (by assumption) (by omega) ?_
      refine am_iload (pc' := 73) dX6_take_71 rfl rfl ?_
      refine am_aload_n (pc' := 74) dX6_take_73 rfl rfl rfl ?_
      refine am_iload (pc' := 76) dX6_take_74 rfl rfl ?_
      refine am_iconst (pc' := 77) dX6_take_76 rfl rfl ?_
      refine am_iadd (pc' := 78) dX6_take_77 rfl ⟨by omega, by omega⟩ ?_
      refine am_callVp (pc' := 81) (as := [_]) (ci := 4)  rfl dX6_take_78 rfl ok_X4_at ml_X6_9 im_X4_at se_X4_at rfl (Nat.le_of_ble_eq_true rfl) rfl (Nat.le_of_ble_eq_true rfl) (by first | assumption | exact ⟨by omega, by omega, rfl⟩) (t_at hS (gso _ (am_fr_u hf (by simp <;> omega)))) ?_
      rw [gat _ _ (am_fr_u hf (by simp <;> omega)), show i + 2 + 3 * p + 2 = i + (2 + 3 * p + 2) by omega]
      refine am_bipush (pc' := 83) dX6_take_81 rfl rfl (by decide) ?_
      refine am_isub (pc' := 84) dX6_take_83 rfl ⟨by omega, by omega⟩ ?_
      refine am_iastore (pc' := 85) dX6_take_84 rfl (by first | assumption | exact ⟨by omega, by omega, rfl⟩) (by omega) (by omega) ?_
      refine am_iinc (pc' := 88) (ls' := [_, _, _, _, _, _]) dX6_take_85 rfl rfl ⟨by omega, by omega⟩ (Nat.le_of_ble_eq_true rfl) rfl rfl ?_
      refine am_goto (pc' := 30) dX6_take_88 rfl ?_
      exact ih _ _ _ (by omega) (by omega) (by omega) (am_fr_u (am_fr_u hf (by simp <;> omega)) (by simp <;> omega)) (by rw [am_u_n (by omega), am_u_n (by omega)]; exact hb) (by rw [am_u_n (by omega), am_u_n (by omega)]; exact hs) (am_upto (fun q z0 z1 => by rw [am_u_n (by omega), am_u_n (by omega), am_u_n (by omega), am_u_n (by omega)]; exact hall q z0 z1) ⟨by rw [am_u_n (by omega), am_u_s, gat _ _ hf, show i + 2 + 3 * p + 1 = i + (2 + 3 * p + 1) by omega], by rw [am_u_s]⟩)
theorem t_take {ρ h : am_H} {x i n r P : Int} (hS : am_SA ρ x) (hO : am_SO h x) (hR : am_RA ρ r) (hne : x + 1 < r ∨ r + 3 < x) (hi : 0 ≤ i ∧ i ≤ 60) (hP : 2 ≤ P ∧ P ≤ 5) (hn : n = 2 + 3 * P) (hb : 50 ≤ sh_at h x (i + 1) ∧ sh_at h x (i + 1) ≤ 54) (hc : ∀ p, 0 ≤ p → p < P → 48 ≤ sh_at h x (i + (2 + 3 * p + 2)) ∧ sh_at h x (i + (2 + 3 * p + 2)) ≤ 57) : am_CT mX6_take 0 0 [am_R x, am_I i, am_I n, am_R r] ρ h (fun v ρ' h1 => v = none ∧ ρ' = ρ ∧ am_fr [r, r + 1, r + 2] h h1 ∧ h1 r 0 = sh_at h x (i + 1) - 48 ∧ h1 r 1 = P ∧ ∀ p, 0 ≤ p → p < P → h1 (r + 1) p = tx_kd (sh_at h x (i + (2 + 3 * p + 1))) ∧ h1 (r + 2) p = sh_at h x (i + (2 + 3 * p + 2)) - 48) := by
  obtain ⟨i1, i2, i3, i4, ⟨e1, e2, e3⟩, l1, l2, l3⟩ := id hR
  obtain ⟨j1, j2, f1, m1⟩ := id hS
  have r0 := i1.1
  have x0 := j1.1
  refine am_ct (ls := [some (am_R x), some (am_I i), some (am_I n), some (am_R r), none, none]) ok_X6_take rfl (fun _ => Nat.le_of_ble_eq_true rfl) (fun _ => rfl) (by intro v hv; simpa using hv) ?_
  refine am_aload_n (pc' := 1) dX6_take_0 rfl rfl rfl ?_
  refine am_aload_n (pc' := 2) dX6_take_1 rfl rfl rfl ?_
  refine am_iload_n (pc' := 3) dX6_take_2 rfl rfl rfl ?_
  refine am_iconst (pc' := 4) dX6_take_3 rfl rfl ?_
  refine am_iadd (pc' := 5) dX6_take_4 rfl ⟨by omega, by omega⟩ ?_
  refine am_callVp (pc' := 8) (as := [_]) (ci := 4)  rfl dX6_take_5 rfl ok_X4_at ml_X6_9 im_X4_at se_X4_at rfl (Nat.le_of_ble_eq_true rfl) rfl (Nat.le_of_ble_eq_true rfl) (by first | assumption | exact ⟨by omega, by omega, rfl⟩) (t_at hS hO) ?_
  refine am_bipush (pc' := 10) dX6_take_8 rfl rfl (by decide) ?_
  refine am_isub (pc' := 11) dX6_take_10 rfl ⟨by omega, by omega⟩ ?_
  refine am_putIk (ki := 0) (pc' := 14) (k := 0) (ci := 3) rfl dX6_take_11 rfl fl_X6_24 (by first | assumption | exact ⟨by omega, by omega, rfl⟩) rfl (fun _ _ _ e => by cases e; rfl) ?_
  refine am_aload_n (pc' := 15) dX6_take_14 rfl rfl rfl ?_
  refine am_iload_n (pc' := 16) dX6_take_15 rfl rfl rfl ?_
  refine am_iconst (pc' := 17) dX6_take_16 rfl rfl ?_
  refine am_isub (pc' := 18) dX6_take_17 rfl ⟨by omega, by omega⟩ ?_
  refine am_iconst (pc' := 19) dX6_take_18 rfl rfl ?_
  refine am_idiv (pc' := 20) dX6_take_19 rfl (by omega) (by omega) ?_
  refine am_iconst (pc' := 21) dX6_take_20 rfl rfl ?_
  refine am_mmin (pc' := 24) dX6_take_21 rfl ml_X6_30 (Nat.le_of_ble_eq_true rfl) (Nat.le_of_ble_eq_true rfl) (by omega) ?_
  refine am_putIk (ki := 1) (pc' := 27) (k := 1) (ci := 3) rfl dX6_take_24 rfl fl_X6_36 (by first | assumption | exact ⟨by omega, by omega, rfl⟩) rfl (fun _ _ _ e => by cases e; rfl) ?_
  refine am_iconst (pc' := 28) dX6_take_27 rfl rfl ?_
  refine am_istore (pc' := 30) (ls' := [_, _, _, _, _, _]) dX6_take_28 rfl (Nat.le_of_ble_eq_true rfl) rfl rfl ?_
  refine t_take_l hS hO hR hne hi hP hc (fun h1 a b c d => ⟨rfl, rfl, a, b, c, d⟩) (P.toNat + 1) 0 _ _ (by omega) (by omega) (by omega) (am_fr_u (am_fr_u am_fr_refl (by simp <;> omega)) (by simp <;> omega)) ?_ ?_ (fun q z0 z1 => by omega)
  · rw [am_u_n (by omega), am_u_s]
  · rw [am_u_s]; omega
