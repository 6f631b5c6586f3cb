/-! Day, Readings -/
def am_tf (r : Option am_V) (A : Prop) : Prop := (r = some (am_I 1) ∧ A) ∨ (r = some (am_I 0) ∧ ¬ A)
def mt_up (f : Int → Int) (p v : Int) : Int → Int := fun q => if q = p then v else f q
def dy_act (f s : Int) : Bool := if s = 9 then decide (0 ≤ f ∧ f ≤ 99) else decide (0 ≤ s ∧ s < 5 ∧ 0 ≤ f ∧ f < 6)
def dy_can (P B f s : Int) : Bool := decide (s = 9 ∨ (0 ≤ s ∧ s < P ∧ 0 ≤ f ∧ f < B))
def dy_f (P B : Int) (kd c : Int → Int) (f : Int → Int) : Nat → (Int → Int)
  | 0 => f
  | k + 1 => if c (2 * k + 1) = 9 then mt_it P B kd (c (2 * k)).toNat (dy_f P B kd c f k) else mt_up (dy_f P B kd c f k) (c (2 * k + 1)) (c (2 * k))
def dy_s (c : Int → Int) (k : Nat) : Int := mt_sum (fun a => if c (2 * a + 1) = 9 then c (2 * a) else 0) k
def dy_z (P : Int) (f : Int → Int) : Prop := mt_sum (fun q => if f q = 0 then 1 else 0) P.toNat = P
theorem mt_sum_z_eq {P : Int} {f g : Int → Int} (hP : 0 ≤ P) (h : mt_eq P f g) : mt_sum (fun q => if f q = 0 then 1 else 0) P.toNat = mt_sum (fun q => if g q = 0 then 1 else 0) P.toNat :=
  mt_sum_eq (fun p h0 h1 => by rw [h p h0 (by omega)])
def dy_o (P B : Int) (kd c : Int → Int) (f : Int → Int) : Nat → Int
  | 0 => 0
  | k + 1 => dy_o P B kd c f k + (if mt_sum (fun q => if dy_f P B kd c f (k + 1) q = 0 then 1 else 0) P.toNat = P then 1 else 0)
theorem dy_f_next {P B : Int} {kd c f : Int → Int} {a : Int} (h : 0 ≤ a) : dy_f P B kd c f (a + 1).toNat = if c (2 * a + 1) = 9 then mt_it P B kd (c (2 * a)).toNat (dy_f P B kd c f a.toNat) else mt_up (dy_f P B kd c f a.toNat) (c (2 * a + 1)) (c (2 * a)) := by
  rw [show (a + 1).toNat = a.toNat + 1 by omega]
  show (if c (2 * ((a.toNat : Nat) : Int) + 1) = 9 then _ else _) = _
  rw [Int.toNat_of_nonneg h]
theorem dy_o_next {P B : Int} {kd c f : Int → Int} {a : Int} (h : 0 ≤ a) : dy_o P B kd c f (a + 1).toNat = dy_o P B kd c f a.toNat + (if mt_sum (fun q => if dy_f P B kd c f (a + 1).toNat q = 0 then 1 else 0) P.toNat = P then 1 else 0) := by
  rw [show (a + 1).toNat = a.toNat + 1 by omega]
  rfl
theorem dy_f_in {P B : Int} {kd c f : Int → Int} (hP : 2 ≤ P) (hf : mt_ok P B f) : ∀ (k : Nat), (∀ a : Int, 0 ≤ a → a < k → dy_can P B (c (2 * a)) (c (2 * a + 1)) = true) → mt_ok P B (dy_f P B kd c f k)
  | 0, _ => hf
  | k + 1, h => by
    have h1 := dy_f_in (kd := kd) (c := c) hP hf k (fun a z0 z1 => h a z0 (by omega))
    have h2 := h k (by omega) (by omega)
    simp only [dy_can, decide_eq_true_eq] at h2
    unfold dy_f
    split
    · exact mt_it_in hP h1 _
    · intro p z0 z1
      unfold mt_up
      split
      · omega
      · exact h1 p z0 z1
theorem mt_sum_nn {f : Int → Int} {M : Int} : ∀ {n : Nat}, (∀ p : Int, 0 ≤ p → p < n → 0 ≤ f p ∧ f p ≤ M) → 0 ≤ mt_sum f n ∧ mt_sum f n ≤ M * n
  | 0, _ => ⟨Int.le_refl 0, by simp [mt_sum]⟩
  | n + 1, h => by
    have h1 := mt_sum_nn (f := f) (M := M) (n := n) (fun p h0 h1 => h p h0 (by omega))
    have h2 := h n (by omega) (by omega)
    show 0 ≤ mt_sum f n + f n ∧ mt_sum f n + f n ≤ M * ((n + 1 : Nat) : Int)
    rw [show ((n + 1 : Nat) : Int) = (n : Int) + 1 by omega, Int.mul_add]
    omega
theorem dy_s_in {c : Int → Int} {n : Nat} (h : ∀ a : Int, 0 ≤ a → a < n → dy_act (c (2 * a)) (c (2 * a + 1)) = true) : 0 ≤ dy_s c n ∧ dy_s c n ≤ 99 * n := by
  refine mt_sum_nn (fun p h0 h1 => ?_)
  have h2 := h p h0 h1
  unfold dy_act at h2
  split
  · rw [if_pos (by assumption)] at h2; simpa using h2
  · omega
theorem dy_o_in {P B : Int} {kd c f : Int → Int} : ∀ (n : Nat), 0 ≤ dy_o P B kd c f n ∧ dy_o P B kd c f n ≤ n
  | 0 => ⟨Int.le_refl 0, Int.le_refl 0⟩
  | n + 1 => by
    have h1 := dy_o_in (P := P) (B := B) (kd := kd) (c := c) (f := f) n
    unfold dy_o
    split <;> omega
theorem t_isAct {ρ h : am_H} {f s : Int} : am_CT mX1_isAct 0 0 [am_I f, am_I s] ρ h (am_P (am_I (if dy_act f s = true then 1 else 0)) ρ h) := by
  refine am_ct (ls := [some (am_I f), some (am_I s)]) ok_X1_isAct rfl (fun _ => Nat.le_of_ble_eq_true rfl) (fun _ => rfl) (by intro v hv; simpa using hv) ?_
  refine am_iload_n (pc' := 1) dX1_isAct_0 rfl rfl rfl ?_
  refine am_bipush (pc' := 3) dX1_isAct_1 rfl rfl (by decide) ?_
  refine am_icmp_ne (pc' := 6) (tgt := 22) dX1_isAct_3 rfl rfl (fun c_3 => ?_) (fun c_3 => ?_)
  · refine am_iload_n (pc' := 23) dX1_isAct_22 rfl rfl rfl ?_
    refine am_if_lt (pc' := 26) (tgt := 45) dX1_isAct_23 rfl rfl (fun c_23 => ?_) (fun c_23 => ?_)
    · refine am_iconst (pc' := 46) dX1_isAct_45 rfl rfl ?_
      refine am_retz dX1_isAct_46 rfl (by first | exact Or.inl rfl | exact Or.inr rfl | omega) ?_
      exact ⟨by first | rw [if_pos (show dy_act f s = true by unfold dy_act; rw [if_pos (by omega)]; simp only [decide_eq_true_eq]; omega)] | rw [if_neg (show ¬ dy_act f s = true by unfold dy_act; rw [if_pos (by omega)]; simp only [decide_eq_true_eq]; omega)] | rw [if_pos (show dy_act f s = true by unfold dy_act; rw [if_neg (by omega)]; simp only [decide_eq_true_eq]; omega)] | rw [if_neg (show ¬ dy_act f s = true by unfold dy_act; rw [if_neg (by omega)]; simp only [decide_eq_true_eq]; omega)], rfl, rfl⟩
    · refine am_iload_n (pc' := 27) dX1_isAct_26 rfl rfl rfl ?_
      refine am_iconst (pc' := 28) dX1_isAct_27 rfl rfl ?_
      refine am_icmp_ge (pc' := 31) (tgt := 45) dX1_isAct_28 rfl rfl (fun c_28 => ?_) (fun c_28 => ?_)
      · refine am_iconst (pc' := 46) dX1_isAct_45 rfl rfl ?_
        refine am_retz dX1_isAct_46 rfl (by first | exact Or.inl rfl | exact Or.inr rfl | omega) ?_
        exact ⟨by first | rw [if_pos (show dy_act f s = true by unfold dy_act; rw [if_pos (by omega)]; simp only [decide_eq_true_eq]; omega)] | rw [if_neg (show ¬ dy_act f s = true by unfold dy_act; rw [if_pos (by omega)]; simp only [decide_eq_true_eq]; omega)] | rw [if_pos (show dy_act f s = true by unfold dy_act; rw [if_neg (by omega)]; simp only [decide_eq_true_eq]; omega)] | rw [if_neg (show ¬ dy_act f s = true by unfold dy_act; rw [if_neg (by omega)]; simp only [decide_eq_true_eq]; omega)], rfl, rfl⟩
      · refine am_iload_n (pc' := 32) dX1_isAct_31 rfl rfl rfl ?_
        refine am_if_lt (pc' := 35) (tgt := 45) dX1_isAct_32 rfl rfl (fun c_32 => ?_) (fun c_32 => ?_)
        · refine am_iconst (pc' := 46) dX1_isAct_45 rfl rfl ?_
          refine am_retz dX1_isAct_46 rfl (by first | exact Or.inl rfl | exact Or.inr rfl | omega) ?_
          exact ⟨by first | rw [if_pos (show dy_act f s = true by unfold dy_act; rw [if_pos (by omega)]; simp only [decide_eq_true_eq]; omega)] | rw [if_neg (show ¬ dy_act f s = true by unfold dy_act; rw [if_pos (by omega)]; simp only [decide_eq_true_eq]; omega)] | rw [if_pos (show dy_act f s = true by unfold dy_act; rw [if_neg (by omega)]; simp only [decide_eq_true_eq]; omega)] | rw [if_neg (show ¬ dy_act f s = true by unfold dy_act; rw [if_neg (by omega)]; simp only [decide_eq_true_eq]; omega)], rfl, rfl⟩
        · refine am_iload_n (pc' := 36) dX1_isAct_35 rfl rfl rfl ?_
          refine am_bipush (pc' := 38) dX1_isAct_36 rfl rfl (by decide) ?_
          refine am_icmp_ge (pc' := 41) (tgt := 45) dX1_isAct_38 rfl rfl (fun c_38 => ?_) (fun c_38 => ?_)
          · refine am_iconst (pc' := 46) dX1_isAct_45 rfl rfl ?_
            refine am_retz dX1_isAct_46 rfl (by first | exact Or.inl rfl | exact Or.inr rfl | omega) ?_
            exact ⟨by first | rw [if_pos (show dy_act f s = true by unfold dy_act; rw [if_pos (by omega)]; simp only [decide_eq_true_eq]; omega)] | rw [if_neg (show ¬ dy_act f s = true by unfold dy_act; rw [if_pos (by omega)]; simp only [decide_eq_true_eq]; omega)] | rw [if_pos (show dy_act f s = true by unfold dy_act; rw [if_neg (by omega)]; simp only [decide_eq_true_eq]; omega)] | rw [if_neg (show ¬ dy_act f s = true by unfold dy_act; rw [if_neg (by omega)]; simp only [decide_eq_true_eq]; omega)], rfl, rfl⟩
          · refine am_iconst (pc' := 42) dX1_isAct_41 rfl rfl ?_
            refine am_goto (pc' := 46) dX1_isAct_42 rfl ?_
            refine am_retz dX1_isAct_46 rfl (by first | exact Or.inl rfl | exact Or.inr rfl | omega) ?_
            exact ⟨by first | rw [if_pos (show dy_act f s = true by unfold dy_act; rw [if_pos (by omega)]; simp only [decide_eq_true_eq]; omega)] | rw [if_neg (show ¬ dy_act f s = true by unfold dy_act; rw [if_pos (by omega)]; simp only [decide_eq_true_eq]; omega)] | rw [if_pos (show dy_act f s = true by unfold dy_act; rw [if_neg (by omega)]; simp only [decide_eq_true_eq]; omega)] | rw [if_neg (show ¬ dy_act f s = true by unfold dy_act; rw [if_neg (by omega)]; simp only [decide_eq_true_eq]; omega)], rfl, rfl⟩
  · refine am_iload_n (pc' := 7) dX1_isAct_6 rfl rfl rfl ?_
    refine am_if_lt (pc' := 10) (tgt := 20) dX1_isAct_7 rfl rfl (fun c_7 => ?_) (fun c_7 => ?_)
    · refine am_iconst (pc' := 21) dX1_isAct_20 rfl rfl ?_
      refine am_retz dX1_isAct_21 rfl (by first | exact Or.inl rfl | exact Or.inr rfl | omega) ?_
      exact ⟨by first | rw [if_pos (show dy_act f s = true by unfold dy_act; rw [if_pos (by omega)]; simp only [decide_eq_true_eq]; omega)] | rw [if_neg (show ¬ dy_act f s = true by unfold dy_act; rw [if_pos (by omega)]; simp only [decide_eq_true_eq]; omega)] | rw [if_pos (show dy_act f s = true by unfold dy_act; rw [if_neg (by omega)]; simp only [decide_eq_true_eq]; omega)] | rw [if_neg (show ¬ dy_act f s = true by unfold dy_act; rw [if_neg (by omega)]; simp only [decide_eq_true_eq]; omega)], rfl, rfl⟩
    · refine am_iload_n (pc' := 11) dX1_isAct_10 rfl rfl rfl ?_
      refine am_bipush (pc' := 13) dX1_isAct_11 rfl rfl (by decide) ?_
      refine am_icmp_gt (pc' := 16) (tgt := 20) dX1_isAct_13 rfl rfl (fun c_13 => ?_) (fun c_13 => ?_)
      · refine am_iconst (pc' := 21) dX1_isAct_20 rfl rfl ?_
        refine am_retz dX1_isAct_21 rfl (by first | exact Or.inl rfl | exact Or.inr rfl | omega) ?_
        exact ⟨by first | rw [if_pos (show dy_act f s = true by unfold dy_act; rw [if_pos (by omega)]; simp only [decide_eq_true_eq]; omega)] | rw [if_neg (show ¬ dy_act f s = true by unfold dy_act; rw [if_pos (by omega)]; simp only [decide_eq_true_eq]; omega)] | rw [if_pos (show dy_act f s = true by unfold dy_act; rw [if_neg (by omega)]; simp only [decide_eq_true_eq]; omega)] | rw [if_neg (show ¬ dy_act f s = true by unfold dy_act; rw [if_neg (by omega)]; simp only [decide_eq_true_eq]; omega)], rfl, rfl⟩
      · refine am_iconst (pc' := 17) dX1_isAct_16 rfl rfl ?_
        refine am_goto (pc' := 21) dX1_isAct_17 rfl ?_
        refine am_retz dX1_isAct_21 rfl (by first | exact Or.inl rfl | exact Or.inr rfl | omega) ?_
        exact ⟨by first | rw [if_pos (show dy_act f s = true by unfold dy_act; rw [if_pos (by omega)]; simp only [decide_eq_true_eq]; omega)] | rw [if_neg (show ¬ dy_act f s = true by unfold dy_act; rw [if_pos (by omega)]; simp only [decide_eq_true_eq]; omega)] | rw [if_pos (show dy_act f s = true by unfold dy_act; rw [if_neg (by omega)]; simp only [decide_eq_true_eq]; omega)] | rw [if_neg (show ¬ dy_act f s = true by unfold dy_act; rw [if_neg (by omega)]; simp only [decide_eq_true_eq]; omega)], rfl, rfl⟩
theorem t_areActs_l {ρ h : am_H} {x i n : Int} {Q : am_Q} (hS : am_SA ρ x) (hO : am_SO h x) (hi : 0 ≤ i ∧ i ≤ 60) (hn : 0 ≤ n ∧ n ≤ 20) (hq : ∀ v, am_tf v (∀ a, 0 ≤ a → a < n → dy_act (sh_at h x (i + 2 * a)) (sh_at h x (i + 2 * a + 1)) = true) → Q v ρ h) :
    ∀ (k : Nat) (a : Int) (v w : Option am_V), (n - a).toNat < k → 0 ≤ a → a ≤ n → (∀ q, 0 ≤ q → q < a → dy_act (sh_at h x (i + 2 * q)) (sh_at h x (i + 2 * q + 1)) = true) → am_WP mX1_areActs 0 0 2 [some (am_R x), some (am_I i), some (am_I n), some (am_I a), v, w] [] ρ h Q := by
  obtain ⟨i1, i2, e1, l1⟩ := id hS
  have x0 := i1.1
  intro k
  induction k with
  | zero => intro a v w hk; omega
  | succ k ih =>
    intro a v w hk h0 ha hall
    refine am_iload_n (pc' := 3) dX1_areActs_2 rfl rfl rfl ?_
    refine am_iload_n (pc' := 4) dX1_areActs_3 rfl rfl rfl ?_
    refine am_icmp_ge (pc' := 7) (tgt := 49) dX1_areActs_4 rfl rfl (fun c_4 => ?_) (fun c_4 => ?_)
    · refine am_iconst (pc' := 50) dX1_areActs_49 rfl rfl ?_
      refine am_retz dX1_areActs_50 rfl (by first | exact Or.inl rfl | exact Or.inr rfl | omega) ?_
      exact hq _ (Or.inl ⟨rfl, fun q z0 z1 => hall q z0 (by omega)⟩)
    · refine am_aload_n (pc' := 8) dX1_areActs_7 rfl rfl rfl ?_
      refine am_iload_n (pc' := 9) dX1_areActs_8 rfl rfl rfl ?_
      refine am_iconst (pc' := 10) dX1_areActs_9 rfl rfl ?_
      refine am_iload_n (pc' := 11) dX1_areActs_10 rfl rfl rfl ?_
      refine am_imul (pc' := 12) dX1_areActs_11 rfl ⟨by omega, by omega⟩ ?_
      refine am_iadd (pc' := 13) dX1_areActs_12 rfl ⟨by omega, by omega⟩ ?_
      refine am_callVp (pc' := 16) (as := [_]) (ci := 4)  rfl dX1_areActs_13 rfl ok_X4_at ml_X1_21 im_X4_at se_X4_at rfl (Nat.le_of_ble_eq_true rfl) rfl (Nat.le_of_ble_eq_true rfl) (by first | assumption | exact ⟨by omega, by omega, rfl⟩) (t_at hS hO) ?_
      refine am_istore (pc' := 18) (ls' := [_, _, _, _, _, _]) dX1_areActs_16 rfl (Nat.le_of_ble_eq_true rfl) rfl rfl ?_
      refine am_aload_n (pc' := 19) dX1_areActs_18 rfl rfl rfl ?_
      refine am_iload_n (pc' := 20) dX1_areActs_19 rfl rfl rfl ?_
      refine am_iconst (pc' := 21) dX1_areActs_20 rfl rfl ?_
      refine am_iload_n (pc' := 22) dX1_areActs_21 rfl rfl rfl ?_
      refine am_imul (pc' := 23) dX1_areActs_22 rfl ⟨by omega, by omega⟩ ?_
      refine am_iadd (pc' := 24) dX1_areActs_23 rfl ⟨by omega, by omega⟩ ?_
      refine am_iconst (pc' := 25) dX1_areActs_24 rfl rfl ?_
      refine am_iadd (pc' := 26) dX1_areActs_25 rfl ⟨by omega, by omega⟩ ?_
      refine am_callVp (pc' := 29) (as := [_]) (ci := 4)  rfl dX1_areActs_26 rfl ok_X4_at ml_X1_21 im_X4_at se_X4_at rfl (Nat.le_of_ble_eq_true rfl) rfl (Nat.le_of_ble_eq_true rfl) (by first | assumption | exact ⟨by omega, by omega, rfl⟩) (t_at hS hO) ?_
      refine am_istore (pc' := 31) (ls' := [_, _, _, _, _, _]) dX1_areActs_29 rfl (Nat.le_of_ble_eq_true rfl) rfl rfl ?_
      refine am_iload (pc' := 33) dX1_areActs_31 rfl rfl ?_
      refine am_iload (pc' := 35) dX1_areActs_33 rfl rfl ?_
      refine am_callSp (pc' := 38) (as := [_, _])  rfl dX1_areActs_35 rfl ok_X1_isAct ml_X1_27 sm_X1_isAct (Nat.le_of_ble_eq_true rfl) rfl (Nat.le_of_ble_eq_true rfl) (t_isAct) ?_
      refine am_if_ne (pc' := 41) (tgt := 43) dX1_areActs_38 rfl rfl (fun c_38 => ?_) (fun c_38 => ?_)
      · simp only [am_z0, am_z1, ne_eq] at c_38
        refine am_iinc (pc' := 46) (ls' := [_, _, _, _, _, _]) dX1_areActs_43 rfl rfl ⟨by omega, by omega⟩ (Nat.le_of_ble_eq_true rfl) rfl rfl ?_
        refine am_goto (pc' := 2) dX1_areActs_46 rfl ?_
        exact ih _ _ _ (by omega) (by omega) (by omega) (am_upto hall c_38)
      · simp only [am_z0, am_z1, ne_eq] at c_38
        refine am_iconst (pc' := 42) dX1_areActs_41 rfl rfl ?_
        refine am_retz dX1_areActs_42 rfl (by first | exact Or.inl rfl | exact Or.inr rfl | omega) ?_
        exact hq _ (Or.inr ⟨rfl, fun z => c_38 (z a h0 (by omega))⟩)
theorem t_areActs {ρ h : am_H} {x i n : Int} (hS : am_SA ρ x) (hO : am_SO h x) (hi : 0 ≤ i ∧ i ≤ 60) (hn : 0 ≤ n ∧ n ≤ 20) : am_CT mX1_areActs 0 0 [am_R x, am_I i, am_I n] ρ h (fun v ρ' h' => ρ' = ρ ∧ h' = h ∧ am_tf v (∀ a, 0 ≤ a → a < n → dy_act (sh_at h x (i + 2 * a)) (sh_at h x (i + 2 * a + 1)) = true)) := by
  refine am_ct (ls := [some (am_R x), some (am_I i), some (am_I n), none, none, none]) ok_X1_areActs rfl (fun _ => Nat.le_of_ble_eq_true rfl) (fun _ => rfl) (by intro v hv; simpa using hv) ?_
  refine am_iconst (pc' := 1) dX1_areActs_0 rfl rfl ?_
  refine am_istore_n (pc' := 2) (ls' := [_, _, _, _, _, _]) dX1_areActs_1 rfl rfl (Nat.le_of_ble_eq_true rfl) rfl rfl ?_
  exact t_areActs_l hS hO hi hn (fun v z => ⟨rfl, rfl, z⟩) (n.toNat + 1) 0 _ _ (by omega) (by omega) (by omega) (fun q z0 z1 => by omega)
theorem t_canDo {ρ h : am_H} {r f s : Int} (hn : 58 ≤ ρ 0 0) (hR : am_RA ρ r) (hr : r + 3 < 37) (hO : am_RO h r) (hf : 0 ≤ f ∧ f ≤ 99) (hs : 0 ≤ h 37 1 ∧ h 37 1 ≤ 100000) (hs5 : s < 5 ∨ s = 9) : am_CT mX1_canDo 0 0 [am_R 37, am_R r, am_I f, am_I s] ρ h (fun v ρ' h' => ρ' = ρ ∧ am_tf v (dy_can (h r 1) (h r 0) f s = true) ∧ am_fr [r + 2, r + 3, 37] h h' ∧ h' 37 0 = h 37 0 ∧ h' 37 2 = h 37 2 ∧ (dy_can (h r 1) (h r 0) f s = true → h' 37 1 = h 37 1 + (if s = 9 then f else 0) ∧ mt_eq (h r 1) (h' (r + 2)) (if s = 9 then mt_it (h r 1) (h r 0) (h (r + 1)) f.toNat (h (r + 2)) else mt_up (h (r + 2)) s f))) := by
  obtain ⟨i1, i2, i3, i4, ⟨e1, e2, e3⟩, l1, l2, l3⟩ := id hR
  obtain ⟨o1, o2, o3, o4, o5⟩ := id hO
  have r0 := i1.1
  refine am_ct (ls := [some (am_R 37), some (am_R r), some (am_I f), some (am_I s)]) ok_X1_canDo rfl (fun _ => Nat.le_of_ble_eq_true rfl) (fun _ => rfl) (by intro v hv; simpa using hv) ?_
  refine am_iload_n (pc' := 1) dX1_canDo_0 rfl rfl rfl ?_
  refine am_bipush (pc' := 3) dX1_canDo_1 rfl rfl (by decide) ?_
  refine am_icmp_ne (pc' := 6) (tgt := 23) dX1_canDo_3 rfl rfl (fun c_3 => ?_) (fun c_3 => ?_)
  · refine am_aload_n (pc' := 24) dX1_canDo_23 rfl rfl rfl ?_
    refine am_iload_n (pc' := 25) dX1_canDo_24 rfl rfl rfl ?_
    refine am_callVp (pc' := 28) (as := [_]) (ci := 3)  rfl dX1_canDo_25 rfl ok_X3_has ml_X1_45 im_X3_has se_X3_has rfl (Nat.le_of_ble_eq_true rfl) rfl (Nat.le_of_ble_eq_true rfl) (by first | assumption | exact ⟨by omega, by omega, rfl⟩) (t_has hR) ?_
    refine am_if_eq (pc' := 31) (tgt := 39) dX1_canDo_28 rfl rfl (fun c_28 => ?_) (fun c_28 => ?_)
    · simp only [am_z0, am_z1, ne_eq] at c_28
      refine am_iconst (pc' := 40) dX1_canDo_39 rfl rfl ?_
      refine am_retz dX1_canDo_40 rfl (by first | exact Or.inl rfl | exact Or.inr rfl | omega) ?_
      exact ⟨rfl, Or.inr ⟨rfl, by simp only [dy_can, decide_eq_true_eq]; omega⟩, am_fr_refl, rfl, rfl, fun z => by simp only [dy_can, decide_eq_true_eq] at z; omega⟩
    · simp only [am_z0, am_z1, ne_eq] at c_28
      refine am_aload_n (pc' := 32) dX1_canDo_31 rfl rfl rfl ?_
      refine am_iload_n (pc' := 33) dX1_canDo_32 rfl rfl rfl ?_
      refine am_callVp (pc' := 36) (as := [_]) (ci := 3)  rfl dX1_canDo_33 rfl ok_X3_isNumber ml_X1_49 im_X3_isNumber se_X3_isNumber rfl (Nat.le_of_ble_eq_true rfl) rfl (Nat.le_of_ble_eq_true rfl) (by first | assumption | exact ⟨by omega, by omega, rfl⟩) (t_isNumber hR) ?_
      refine am_if_ne (pc' := 39) (tgt := 41) dX1_canDo_36 rfl rfl (fun c_36 => ?_) (fun c_36 => ?_)
      · simp only [am_z0, am_z1, ne_eq] at c_36
        refine am_aload_n (pc' := 42) dX1_canDo_41 rfl rfl rfl ?_
        refine am_getRk (ki := 3) (pc' := 45) (k := 3) (ci := 3) rfl dX1_canDo_42 rfl fl_X1_52 (by first | assumption | exact ⟨by omega, by omega, rfl⟩) rfl (by assumption) (by omega) ?_
        refine am_iload_n (pc' := 46) dX1_canDo_45 rfl rfl rfl ?_
        refine am_iload_n (pc' := 47) dX1_canDo_46 rfl rfl rfl ?_
        refine am_iastore (pc' := 48) dX1_canDo_47 rfl (by first | assumption | exact ⟨by omega, by omega, rfl⟩) (by omega) (by omega) ?_
        refine am_iconst (pc' := 49) dX1_canDo_48 rfl rfl ?_
        refine am_retz dX1_canDo_49 rfl (by first | exact Or.inl rfl | exact Or.inr rfl | omega) ?_
        refine ⟨rfl, Or.inl ⟨rfl, by simp only [dy_can, decide_eq_true_eq]; omega⟩, am_fr_u am_fr_refl (by simp <;> omega), am_u_n (by omega), am_u_n (by omega), fun _ => ⟨?_, ?_⟩⟩
        · rw [am_u_n (by omega), if_neg (by omega)]; omega
        · rw [if_neg (by omega)]; intro p z0 z1; unfold mt_up am_u; by_cases z : p = s <;> simp [z]
      · simp only [am_z0, am_z1, ne_eq] at c_36
        refine am_iconst (pc' := 40) dX1_canDo_39 rfl rfl ?_
        refine am_retz dX1_canDo_40 rfl (by first | exact Or.inl rfl | exact Or.inr rfl | omega) ?_
        exact ⟨rfl, Or.inr ⟨rfl, by simp only [dy_can, decide_eq_true_eq]; omega⟩, am_fr_refl, rfl, rfl, fun z => by simp only [dy_can, decide_eq_true_eq] at z; omega⟩
  · refine am_aload_n (pc' := 7) dX1_canDo_6 rfl rfl rfl ?_
    refine am_iload_n (pc' := 8) dX1_canDo_7 rfl rfl rfl ?_
    refine am_callV0 (pc' := 11) (as := [_]) (ci := 3)  rfl dX1_canDo_8 rfl ok_X3_go ml_X1_41 im_X3_go se_X3_go rfl (Nat.le_of_ble_eq_true rfl) rfl (Nat.le_of_ble_eq_true rfl) (by first | assumption | exact ⟨by omega, by omega, rfl⟩) (t_go hR hO (by omega)) (fun r_8 ρ_8 h_8 q_8 g_8 e_8 => ?_)
    obtain ⟨rfl, rfl, g1, g2⟩ := q_8
    have g3 : h_8 37 1 = h 37 1 := g1 37 1 (by simp <;> omega)
    refine am_aload_n (pc' := 12) dX1_canDo_11 rfl rfl rfl ?_
    first | refine am_dupR (pc' := 13) dX1_canDo_12 rfl ?_ | refine am_dupI (pc' := 13) dX1_canDo_12 rfl ?_
    refine am_getIk (ki := 1) (pc' := 16) (k := 1) (ci := 1) rfl dX1_canDo_13 rfl fl_X1_15 (by first | assumption | exact ⟨by omega, by omega, rfl⟩) rfl ?_
    refine am_iload_n (pc' := 17) dX1_canDo_16 rfl rfl rfl ?_
    refine am_iadd (pc' := 18) dX1_canDo_17 rfl ⟨by omega, by omega⟩ ?_
    refine am_putIk (ki := 1) (pc' := 21) (k := 1) (ci := 1) rfl dX1_canDo_18 rfl fl_X1_15 (by first | assumption | exact ⟨by omega, by omega, rfl⟩) rfl (fun _ _ _ e => by cases e; rfl) ?_
    refine am_iconst (pc' := 22) dX1_canDo_21 rfl rfl ?_
    refine am_retz dX1_canDo_22 rfl (by first | exact Or.inl rfl | exact Or.inr rfl | omega) ?_
    refine ⟨rfl, Or.inl ⟨rfl, by simp [dy_can, *]⟩, fun x k hx => ?_, ?_, ?_, fun _ => ⟨?_, ?_⟩⟩
    · simp at hx; rw [am_u_n (by omega), g1 x k (by simp <;> omega)]
    · rw [am_u_n (by omega), g1 37 0 (by simp <;> omega)]
    · rw [am_u_n (by omega), g1 37 2 (by simp <;> omega)]
    · rw [am_u_s, g3, if_pos (by omega)]
    · rw [if_pos (by omega)]; intro p z0 z1; rw [am_u_n (by omega)]; exact g2 p z0 z1
theorem t_play_w {ρ h1 : am_H} {r x i n a : Int} {Q : am_Q} (hn : 58 ≤ ρ 0 0) (hw : h1 37 0 ≠ -9) (hq : Q none ρ h1) : am_WP mX1_play 0 0 19 [some (am_R 37), some (am_R r), some (am_R x), some (am_I i), some (am_I n), some (am_I a)] [] ρ h1 Q := by
  refine am_iload (pc' := 21) dX1_play_19 rfl rfl ?_
  refine am_iload (pc' := 23) dX1_play_21 rfl rfl ?_
  refine am_icmp_ge (pc' := 26) (tgt := 97) dX1_play_23 rfl rfl (fun c_23 => ?_) (fun c_23 => ?_)
  · refine am_retv dX1_play_97 rfl ?_
    exact hq
  · refine am_aload_n (pc' := 27) dX1_play_26 rfl rfl rfl ?_
    refine am_getIk (ki := 0) (pc' := 30) (k := 0) (ci := 1) rfl dX1_play_27 rfl fl_X1_9 (by first | assumption | exact ⟨by omega, by omega, rfl⟩) rfl ?_
    refine am_bipush (pc' := 32) dX1_play_30 rfl rfl (by decide) ?_
    refine am_icmp_ne (pc' := 35) (tgt := 97) dX1_play_32 rfl rfl (fun c_32 => ?_) (fun c_32 => ?_)
    · refine am_retv dX1_play_97 rfl ?_
      exact hq
    · exact absurd c_32 hw
