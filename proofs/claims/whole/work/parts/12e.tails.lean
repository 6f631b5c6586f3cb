/-! AllRows: tails, sums -/
theorem t_findTails_l {ρ h : am_H} {A L q : Int} {nx od : Int → Int} {Q : am_Q} (hC : am_LC ρ) (hD : am_DA ρ A L) (hN : 0 < h 19 7 ∧ h 19 7 ≤ L) (hin : gr_in nx (h 19 7)) (hnx : ∀ c, 0 ≤ c → c < h 19 7 → h A c = nx c) (hod : ∀ i, 0 ≤ i → i < q → h (A + 2) i = od i) (hq7 : q ≤ h 19 7)
    (p1 : ∀ i, 0 ≤ i → i < q → 0 ≤ od i ∧ od i < h 19 7) (p2 : ∀ i j, 0 ≤ i → i < j → j < q → od i ≠ od j) (p3 : ∀ c, 0 ≤ c → c < h 19 7 → (¬ onc nx c ↔ pr_pc od q c)) (p4 : ∀ i j, 0 ≤ i → i < q → 0 ≤ j → j < q → nx (od i) = od j → i < j)
    (hq : ∀ h1, am_fr [A + 3, A + 4] h h1 → (∀ c, 0 ≤ c → c < h 19 7 → gr_tl nx c (h1 (A + 4) c) ∧ gr_rt nx c (h1 (A + 3) c)) → Q none ρ h1) :
    ∀ (n : Nat) (k : Int) (h1 : am_H) (v w : Option am_V), k < n → -1 ≤ k → k < q → am_fr [A + 3, A + 4] h h1 → (∀ c, 0 ≤ c → c < h 19 7 → onc nx c → gr_tl nx c (h1 (A + 4) c) ∧ gr_rt nx c (h1 (A + 3) c)) → (∀ i, k < i → i < q → gr_tl nx (od i) (h1 (A + 4) (od i)) ∧ gr_rt nx (od i) (h1 (A + 3) (od i))) →
      am_WP mX0_findTails 0 0 7 [some (am_R 19), some (am_I k), v, w] [] ρ h1 Q := by
  obtain ⟨k0, k1, k2, k3, k4, k5, ⟨e1, e2, e3, e4, e5⟩, ⟨l1, l2, l3, l4, l5⟩, hA, hL0, hL7⟩ := am_DAx hD
  have hn58 := hC.1
  intro n
  induction n with
  | zero =>
    intro k h1 v w a b d hf hg1 hg2
    refine am_iload_n (pc' := 8) dX0_findTails_7 rfl rfl rfl ?_
    refine am_if_lt (pc' := 11) (tgt := 64) dX0_findTails_8 rfl rfl (fun c_8 => ?_) (fun c_8 => ?_)
    · refine am_retv dX0_findTails_64 rfl ?_
      refine hq h1 hf (fun c c0 c1 => ?_)
      by_cases z : onc nx c
      · exact hg1 c c0 c1 z
      · obtain ⟨i, i0, i1, e⟩ := (p3 c c0 c1).mp z
        rw [← e]; exact hg2 i (by omega) i1
    · omega
  | succ n ih =>
    intro k h1 v w a b d hf hg1 hg2
    have g3 : h1 19 7 = h 19 7 := hf 19 7 (by simp <;> omega)
    have g4 : h1 A = h A := funext fun k => hf A k (by simp <;> omega)
    have g5 : h1 (A + 2) = h (A + 2) := funext fun k => hf (A + 2) k (by simp <;> omega)
    have S : 0 ≤ k → gr_tl nx (nx (od k)) (h1 (A + 4) (nx (od k))) ∧ gr_rt nx (nx (od k)) (h1 (A + 3) (nx (od k))) := fun z => by
      have hk := p1 k z d
      have ht := hin _ hk.1 hk.2
      by_cases y : onc nx (nx (od k))
      · exact hg1 _ ht.1 ht.2 y
      · obtain ⟨j, j0, j1, e⟩ := (p3 _ ht.1 ht.2).mp y
        rw [← e]
        exact hg2 j (p4 k j z d j0 j1 e.symm) j1
    refine am_iload_n (pc' := 8) dX0_findTails_7 rfl rfl rfl ?_
    refine am_if_lt (pc' := 11) (tgt := 64) dX0_findTails_8 rfl rfl (fun c_8 => ?_) (fun c_8 => ?_)
    · refine am_retv dX0_findTails_64 rfl ?_
      refine hq h1 hf (fun c c0 c1 => ?_)
      by_cases z : onc nx c
      · exact hg1 c c0 c1 z
      · obtain ⟨i, i0, i1, e⟩ := (p3 c c0 c1).mp z
        rw [← e]; exact hg2 i (by omega) i1
    · have hk := p1 k (by omega) d
      have ht := hin _ hk.1 hk.2
      have hnn : h1 A (od k) = nx (od k) := by rw [g4]; exact hnx _ hk.1 hk.2
      have hoo : h1 (A + 2) k = od k := by rw [g5]; exact hod k (by omega) d
      have hS := S (by omega)
      have hb1 := gr_tl_lt hin ht.1 ht.2 hS.1
      have hb0 := hS.1.1
      have hno : ¬ onc nx (od k) := (p3 _ hk.1 hk.2).mpr ⟨k, by omega, d, rfl⟩
      refine am_aload_n (pc' := 12) dX0_findTails_11 rfl rfl rfl ?_
      refine am_getRk (ki := 3) (pc' := 15) (k := 3) (ci := 0) rfl dX0_findTails_12 rfl fl_X0_25 (by first | assumption | exact ⟨by omega, by omega, rfl⟩) rfl (by assumption) (by omega) ?_
      refine am_iload_n (pc' := 16) dX0_findTails_15 rfl rfl rfl ?_
      refine am_iaload (pc' := 17) dX0_findTails_16 rfl (by first | assumption | exact ⟨by omega, by omega, rfl⟩) (by omega) (by omega) ?_
      rw [hoo]
      refine am_istore_n (pc' := 18) (ls' := [_, _, _, _]) dX0_findTails_17 rfl rfl (Nat.le_of_ble_eq_true rfl) rfl rfl ?_
      refine am_aload_n (pc' := 19) dX0_findTails_18 rfl rfl rfl ?_
      refine am_iload_n (pc' := 20) dX0_findTails_19 rfl rfl rfl ?_
      refine am_callVp (pc' := 23) (as := [_]) (ci := 0)  rfl dX0_findTails_20 rfl ok_X0_nextOf ml_X0_115 im_X0_nextOf se_X0_nextOf rfl (Nat.le_of_ble_eq_true rfl) rfl (Nat.le_of_ble_eq_true rfl) (by first | assumption | exact ⟨by omega, by omega, rfl⟩) (t_nextOf (h := h1) hD (by omega) hk.1 (by omega)) ?_
      rw [hnn]
      refine am_istore_n (pc' := 24) (ls' := [_, _, _, _]) dX0_findTails_23 rfl rfl (Nat.le_of_ble_eq_true rfl) rfl rfl ?_
      refine am_aload_n (pc' := 25) dX0_findTails_24 rfl rfl rfl ?_
      refine am_iload_n (pc' := 26) dX0_findTails_25 rfl rfl rfl ?_
      refine am_callVp (pc' := 29) (as := [_]) (ci := 0)  rfl dX0_findTails_26 rfl ok_X0_isRow ml_X0_104 im_X0_isRow se_X0_isRow rfl (Nat.le_of_ble_eq_true rfl) rfl (Nat.le_of_ble_eq_true rfl) (by first | assumption | exact ⟨by omega, by omega, rfl⟩) (t_isRow (h := h1) hD) ?_
      refine am_if_eq (pc' := 32) (tgt := 58) dX0_findTails_29 rfl rfl (fun c_29 => ?_) (fun c_29 => ?_)
      · simp only [am_z0, am_z1, ne_eq] at c_29
        exfalso; omega
      · simp only [am_z0, am_z1, ne_eq] at c_29
        refine am_aload_n (pc' := 33) dX0_findTails_32 rfl rfl rfl ?_
        refine am_getRk (ki := 5) (pc' := 36) (k := 5) (ci := 0) rfl dX0_findTails_33 rfl fl_X0_31 (by first | assumption | exact ⟨by omega, by omega, rfl⟩) rfl (by assumption) (by omega) ?_
        refine am_iload_n (pc' := 37) dX0_findTails_36 rfl rfl rfl ?_
        refine am_aload_n (pc' := 38) dX0_findTails_37 rfl rfl rfl ?_
        refine am_getRk (ki := 5) (pc' := 41) (k := 5) (ci := 0) rfl dX0_findTails_38 rfl fl_X0_31 (by first | assumption | exact ⟨by omega, by omega, rfl⟩) rfl (by assumption) (by omega) ?_
        refine am_iload_n (pc' := 42) dX0_findTails_41 rfl rfl rfl ?_
        refine am_iaload (pc' := 43) dX0_findTails_42 rfl (by first | assumption | exact ⟨by omega, by omega, rfl⟩) (by omega) (by omega) ?_
        refine am_iconst (pc' := 44) dX0_findTails_43 rfl rfl ?_
        refine am_iadd (pc' := 45) dX0_findTails_44 rfl ⟨by omega, by omega⟩ ?_
        refine am_iastore (pc' := 46) dX0_findTails_45 rfl (by first | assumption | exact ⟨by omega, by omega, rfl⟩) (by omega) (by omega) ?_
        refine am_aload_n (pc' := 47) dX0_findTails_46 rfl rfl rfl ?_
        refine am_getRk (ki := 4) (pc' := 50) (k := 4) (ci := 0) rfl dX0_findTails_47 rfl fl_X0_28 (by first | assumption | exact ⟨by omega, by omega, rfl⟩) rfl (by assumption) (by omega) ?_
        refine am_iload_n (pc' := 51) dX0_findTails_50 rfl rfl rfl ?_
        refine am_aload_n (pc' := 52) dX0_findTails_51 rfl rfl rfl ?_
        refine am_getRk (ki := 4) (pc' := 55) (k := 4) (ci := 0) rfl dX0_findTails_52 rfl fl_X0_28 (by first | assumption | exact ⟨by omega, by omega, rfl⟩) rfl (by assumption) (by omega) ?_
        refine am_iload_n (pc' := 56) dX0_findTails_55 rfl rfl rfl ?_
        refine am_iaload (pc' := 57) dX0_findTails_56 rfl (by first | assumption | exact ⟨by omega, by omega, rfl⟩) (by omega) (by omega) ?_
        rw [am_u_n (by omega)]
        refine am_iastore (pc' := 58) dX0_findTails_57 rfl (by first | assumption | exact ⟨by omega, by omega, rfl⟩) (by omega) (by omega) ?_
        refine am_iinc (pc' := 61) (ls' := [_, _, _, _]) dX0_findTails_58 rfl rfl ⟨by omega, by omega⟩ (Nat.le_of_ble_eq_true rfl) rfl rfl ?_
        refine am_goto (pc' := 7) dX0_findTails_61 rfl ?_
        refine ih _ _ _ _ (by omega) (by omega) (by omega) (am_fr_u (am_fr_u hf (by simp <;> omega)) (by simp <;> omega)) (fun c c0 c1 hc => ?_) (fun i i0 i1 => ?_)
        · have hne : c ≠ od k := fun z => hno (z ▸ hc)
          rw [am_u_n (by omega), am_u_n (by omega), am_u_n (by omega), am_u_n (by omega)]; exact hg1 c c0 c1 hc
        · by_cases z : i = k
          · rw [z, am_u_n (by omega), am_u_s, am_u_s]; exact ⟨gr_tl_s hno hS.1, gr_rt_s hS.2⟩
          · have hne : od i ≠ od k := fun y => p2 k i (by omega) (by omega) i1 y.symm
            rw [am_u_n (by omega), am_u_n (by omega), am_u_n (by omega), am_u_n (by omega)]; exact hg2 i (by omega) i1
theorem t_findTails {ρ h : am_H} {A L : Int} {nx : Int → Int} (hC : am_LC ρ) (hD : am_DA ρ A L) (hN : 0 < h 19 7 ∧ h 19 7 ≤ L) (hin : gr_in nx (h 19 7)) (hnx : ∀ c, 0 ≤ c → c < h 19 7 → h A c = nx c) (cm : Int → Int) (hp : pr_I nx (h 19 7) cm (h (A + 2)) (h 19 6) (h 19 6)) (ho : ∀ c, 0 ≤ c → c < h 19 7 → onc nx c → gr_rt nx c (h (A + 3) c) ∧ h (A + 4) c = 0) :
    am_CT mX0_findTails 0 0 [am_R 19] ρ h (fun v ρ' h1 => v = none ∧ ρ' = ρ ∧ am_fr [A + 3, A + 4] h h1 ∧ (∀ c, 0 ≤ c → c < h 19 7 → gr_tl nx c (h1 (A + 4) c) ∧ gr_rt nx c (h1 (A + 3) c))) := by
  obtain ⟨k0, k1, k2, k3, k4, k5, ⟨e1, e2, e3, e4, e5⟩, ⟨l1, l2, l3, l4, l5⟩, hA, hL0, hL7⟩ := am_DAx hD
  have hn58 := hC.1
  obtain ⟨b1, b2, b3⟩ := pr_end hp hin
  have hb := hp.1
  refine am_ct (ls := [some (am_R 19), none, none, none]) ok_X0_findTails rfl (fun _ => Nat.le_of_ble_eq_true rfl) (fun _ => rfl) (by intro v hv; simpa using hv) ?_
  refine am_aload_n (pc' := 1) dX0_findTails_0 rfl rfl rfl ?_
  refine am_getIk (ki := 6) (pc' := 4) (k := 6) (ci := 0) rfl dX0_findTails_1 rfl fl_X0_34 (by first | assumption | exact ⟨by omega, by omega, rfl⟩) rfl ?_
  refine am_iconst (pc' := 5) dX0_findTails_4 rfl rfl ?_
  refine am_isub (pc' := 6) dX0_findTails_5 rfl ⟨by omega, by omega⟩ ?_
  refine am_istore_n (pc' := 7) (ls' := [_, _, _, _]) dX0_findTails_6 rfl rfl (Nat.le_of_ble_eq_true rfl) rfl rfl ?_
  exact t_findTails_l hC hD hN hin hnx (fun _ _ _ => rfl) hb.2.2 hp.2.1 hp.2.2.1 b2 b3 (fun h1 a b => ⟨rfl, rfl, a, b⟩) (h 19 6).toNat _ _ _ _ (by omega) (by omega) (by omega) am_fr_refl (fun c c0 c1 hc => ⟨by rw [(ho c c0 c1 hc).2]; exact gr_tl_0 hc, (ho c c0 c1 hc).1⟩) (fun i i0 i1 => by omega)
/-- the longest tail, and the first row that has it -/
def gr_lg (tl : Int → Int) (N m c : Int) : Prop := (0 ≤ c ∧ c < N) ∧ tl c = m ∧ (∀ d, 0 ≤ d → d < N → tl d ≤ m) ∧ ∀ d, 0 ≤ d → d < c → tl d < m
theorem gr_lg_uniq {tl tl' : Int → Int} {N m c m' c' : Int} (he : ∀ d, 0 ≤ d → d < N → tl d = tl' d) (h1 : gr_lg tl N m c) (h2 : gr_lg tl' N m' c') : m = m' ∧ c = c' := by
  obtain ⟨a1, a2, a3, a4⟩ := h1
  obtain ⟨b1, b2, b3, b4⟩ := h2
  have x1 := a3 c' b1.1 b1.2
  have x2 := b3 c a1.1 a1.2
  have y1 := he c a1.1 a1.2
  have y2 := he c' b1.1 b1.2
  have hm : m = m' := by omega
  refine ⟨hm, ?_⟩
  rcases Int.lt_trichotomy c c' with z | z | z
  · have := b4 c a1.1 z; omega
  · exact z
  · have := a4 c' b1.1 z; omega
def gr_stay (nx : Int → Int) (n : Nat) : Int := mt_sum (fun q => if nx q = q then 1 else 0) n
noncomputable def gr_outs (nx : Int → Int) (n : Nat) : Int := mt_sum (fun q => mt_ch (gr_out nx q)) n
theorem t_sumUp_l {ρ h : am_H} {A L : Int} {nx : Int → Int} {Q : am_Q} (hC : am_LC ρ) (hD : am_DA ρ A L) (hN : 0 < h 19 7 ∧ h 19 7 ≤ L) (hin : gr_in nx (h 19 7)) (hnx : ∀ c, 0 ≤ c → c < h 19 7 → h A c = nx c) (h00 : nx 0 = 0) (hG : ∀ c, 0 ≤ c → c < h 19 7 → gr_tl nx c (h (A + 4) c) ∧ gr_rt nx c (h (A + 3) c))
    (hq : ∀ h1, am_fr [19] h h1 → (∀ k, k ≠ 8 → k ≠ 10 → k ≠ 12 → k ≠ 13 → h1 19 k = h 19 k) → h1 19 8 = gr_stay nx (h 19 7).toNat → h1 19 10 = gr_outs nx (h 19 7).toNat → gr_lg (h (A + 4)) (h 19 7) (h1 19 12) (h1 19 13) → Q none ρ h1) :
    ∀ (n : Nat) (row : Int) (h1 : am_H), (h 19 7 - row).toNat < n → 0 ≤ row → row ≤ h 19 7 → am_fr [19] h h1 → (∀ k, k ≠ 8 → k ≠ 10 → k ≠ 12 → k ≠ 13 → h1 19 k = h 19 k) → h1 19 8 = gr_stay nx row.toNat → h1 19 10 = gr_outs nx row.toNat → ((row = 0 ∧ h1 19 12 = 0 ∧ h1 19 13 = 0) ∨ (0 < row ∧ 0 ≤ h1 19 12 ∧ gr_lg (h (A + 4)) row (h1 19 12) (h1 19 13))) →
      am_WP mX0_sumUp 0 0 22 [some (am_R 19), some (am_I row)] [] ρ h1 Q := by
  obtain ⟨k0, k1, k2, k3, k4, k5, ⟨e1, e2, e3, e4, e5⟩, ⟨l1, l2, l3, l4, l5⟩, hA, hL0, hL7⟩ := am_DAx hD
  have hn58 := hC.1
  intro n
  induction n with
  | zero => intro row h1 hk; omega
  | succ n ih =>
    intro row h1 hk h0 h9 hf hg hs ho hl
    have g3 : h1 19 7 = h 19 7 := hg 7 (by decide) (by decide) (by decide) (by decide)
    have g4 : h1 A = h A := funext fun k => hf A k (by simp <;> omega)
    have sb : 0 ≤ gr_stay nx row.toNat ∧ gr_stay nx row.toNat ≤ row := by
      have := mt_sum_nn (f := fun q => if nx q = q then 1 else 0) (M := 1) (n := row.toNat) (fun p _ _ => by split <;> omega)
      unfold gr_stay; omega
    have ob : 0 ≤ gr_outs nx row.toNat ∧ gr_outs nx row.toNat ≤ row := by
      have := mt_sum_nn (f := fun q => mt_ch (gr_out nx q)) (M := 1) (n := row.toNat) (fun p _ _ => mt_ch_in _)
      unfold gr_outs; omega
    have sn : gr_stay nx (row + 1).toNat = gr_stay nx row.toNat + (if nx row = row then 1 else 0) := mt_sum_next _ h0
    have on : gr_outs nx (row + 1).toNat = gr_outs nx row.toNat + mt_ch (gr_out nx row) := mt_sum_next _ h0
    have K96 : ∀ h2, row < h 19 7 → am_fr [19] h h2 → (∀ k, k ≠ 8 → k ≠ 10 → k ≠ 12 → k ≠ 13 → h2 19 k = h 19 k) → h2 19 8 = gr_stay nx (row + 1).toNat → h2 19 10 = gr_outs nx (row + 1).toNat → 0 ≤ h2 19 12 → gr_lg (h (A + 4)) (row + 1) (h2 19 12) (h2 19 13) → am_WP mX0_sumUp 0 0 96 [some (am_R 19), some (am_I row)] [] ρ h2 Q := by
      intro h2 hrow a b c d e f
      refine am_iinc (pc' := 99) (ls' := [_, _]) dX0_sumUp_96 rfl rfl ⟨by omega, by omega⟩ (Nat.le_of_ble_eq_true rfl) rfl rfl ?_
      refine am_goto (pc' := 22) dX0_sumUp_99 rfl ?_
      exact ih _ _ (by omega) (by omega) (by omega) a b c d (Or.inr ⟨by omega, e, f⟩)
    have K68 : ∀ h2, row < h 19 7 → am_fr [19] h h2 → (∀ k, k ≠ 8 → k ≠ 10 → h2 19 k = h1 19 k) → h2 19 8 = gr_stay nx (row + 1).toNat → h2 19 10 = gr_outs nx (row + 1).toNat → am_WP mX0_sumUp 0 0 68 [some (am_R 19), some (am_I row)] [] ρ h2 Q := by
      intro h2 hrow a b c d
      have b12 := b 12 (by decide) (by decide)
      have b13 := b 13 (by decide) (by decide)
      have t4 : h2 (A + 4) row = h (A + 4) row := a (A + 4) row (by simp <;> omega)
      have tl := (hG row h0 hrow).1
      have tlt := gr_tl_lt hin h0 hrow tl
      have tl0 := tl.1
      have b9 : ∀ k, k ≠ 8 → k ≠ 10 → k ≠ 12 → k ≠ 13 → h2 19 k = h 19 k := fun k z1 z2 z3 z4 => by rw [b k z1 z2]; exact hg k z1 z2 z3 z4
      have b7 : h2 19 7 = h 19 7 := b9 7 (by decide) (by decide) (by decide) (by decide)
      refine am_aload_n (pc' := 69) dX0_sumUp_68 rfl rfl rfl ?_
      refine am_getRk (ki := 5) (pc' := 72) (k := 5) (ci := 0) rfl dX0_sumUp_69 rfl fl_X0_31 (by first | assumption | exact ⟨by omega, by omega, rfl⟩) rfl (by assumption) (by omega) ?_
      refine am_iload_n (pc' := 73) dX0_sumUp_72 rfl rfl rfl ?_
      refine am_iaload (pc' := 74) dX0_sumUp_73 rfl (by first | assumption | exact ⟨by omega, by omega, rfl⟩) (by omega) (by omega) ?_
      refine am_aload_n (pc' := 75) dX0_sumUp_74 rfl rfl rfl ?_
      refine am_getIk (ki := 12) (pc' := 78) (k := 12) (ci := 0) rfl dX0_sumUp_75 rfl fl_X0_53 (by first | assumption | exact ⟨by omega, by omega, rfl⟩) rfl ?_
      refine am_icmp_le (pc' := 81) (tgt := 96) dX0_sumUp_78 rfl rfl (fun c_78 => ?_) (fun c_78 => ?_)
      · first | exact K96 h2 hrow a b9 c d (by rcases hl with z | z <;> omega) (by rcases hl with ⟨z1, z2, z3⟩ | ⟨z1, z2, ⟨y1, y2, y3, y4⟩⟩; (exact ⟨by omega, by rw [b13, z3, ← z1]; omega, fun x x0 x1 => by rw [show x = row by omega]; omega, fun x x0 x1 => by omega⟩); exact ⟨by omega, by rw [b13, b12]; exact y2, fun x x0 x1 => by by_cases w : x = row; (rw [w]; omega); have := y3 x x0 (by omega); omega, fun x x0 x1 => by rw [b12]; rw [b13] at x1; exact y4 x x0 x1⟩) | exact K96 _ hrow (am_fr_u (am_fr_u a (by simp <;> omega)) (by simp <;> omega)) (fun k z1 z2 z3 z4 => by rw [am_u_n (by omega), am_u_n (by omega)]; exact b9 k z1 z2 z3 z4) (by rw [am_u_n (by omega), am_u_n (by omega)]; exact c) (by rw [am_u_n (by omega), am_u_n (by omega)]; exact d) (by rw [am_u_n (by omega), am_u_s]; omega) (by rw [am_u_n (by omega), am_u_s, am_u_s]; exact ⟨by omega, by rw [t4], fun x x0 x1 => by by_cases w : x = row; (rw [w]; omega); (rcases hl with z | ⟨z1, z2, ⟨y1, y2, y3, y4⟩⟩; omega; have := y3 x x0 (by omega); omega), fun x x0 x1 => by rcases hl with z | ⟨z1, z2, ⟨y1, y2, y3, y4⟩⟩; omega; have := y3 x x0 (by omega); omega⟩) | fail
      · refine am_aload_n (pc' := 82) dX0_sumUp_81 rfl rfl rfl ?_
        refine am_aload_n (pc' := 83) dX0_sumUp_82 rfl rfl rfl ?_
        refine am_getRk (ki := 5) (pc' := 86) (k := 5) (ci := 0) rfl dX0_sumUp_83 rfl fl_X0_31 (by first | assumption | exact ⟨by omega, by omega, rfl⟩) rfl (by assumption) (by omega) ?_
        refine am_iload_n (pc' := 87) dX0_sumUp_86 rfl rfl rfl ?_
        refine am_iaload (pc' := 88) dX0_sumUp_87 rfl (by first | assumption | exact ⟨by omega, by omega, rfl⟩) (by omega) (by omega) ?_
        refine am_putIk (ki := 12) (pc' := 91) (k := 12) (ci := 0) rfl dX0_sumUp_88 rfl fl_X0_53 (by first | assumption | exact ⟨by omega, by omega, rfl⟩) rfl (fun _ _ _ e => by cases e; rfl) ?_
        refine am_aload_n (pc' := 92) dX0_sumUp_91 rfl rfl rfl ?_
        refine am_iload_n (pc' := 93) dX0_sumUp_92 rfl rfl rfl ?_
        refine am_putIk (ki := 13) (pc' := 96) (k := 13) (ci := 0) rfl dX0_sumUp_93 rfl fl_X0_56 (by first | assumption | exact ⟨by omega, by omega, rfl⟩) rfl (fun _ _ _ e => by cases e; rfl) ?_
        first | exact K96 h2 hrow a b9 c d (by rcases hl with z | z <;> omega) (by rcases hl with ⟨z1, z2, z3⟩ | ⟨z1, z2, ⟨y1, y2, y3, y4⟩⟩; (exact ⟨by omega, by rw [b13, z3, ← z1]; omega, fun x x0 x1 => by rw [show x = row by omega]; omega, fun x x0 x1 => by omega⟩); exact ⟨by omega, by rw [b13, b12]; exact y2, fun x x0 x1 => by by_cases w : x = row; (rw [w]; omega); have := y3 x x0 (by omega); omega, fun x x0 x1 => by rw [b12]; rw [b13] at x1; exact y4 x x0 x1⟩) | exact K96 _ hrow (am_fr_u (am_fr_u a (by simp <;> omega)) (by simp <;> omega)) (fun k z1 z2 z3 z4 => by rw [am_u_n (by omega), am_u_n (by omega)]; exact b9 k z1 z2 z3 z4) (by rw [am_u_n (by omega), am_u_n (by omega)]; exact c) (by rw [am_u_n (by omega), am_u_n (by omega)]; exact d) (by rw [am_u_n (by omega), am_u_s]; omega) (by rw [am_u_n (by omega), am_u_s, am_u_s]; exact ⟨by omega, by rw [t4], fun x x0 x1 => by by_cases w : x = row; (rw [w]; omega); (rcases hl with z | ⟨z1, z2, ⟨y1, y2, y3, y4⟩⟩; omega; have := y3 x x0 (by omega); omega), fun x x0 x1 => by rcases hl with z | ⟨z1, z2, ⟨y1, y2, y3, y4⟩⟩; omega; have := y3 x x0 (by omega); omega⟩) | fail
    have K50 : ∀ h2, row < h 19 7 → am_fr [19] h h2 → (∀ k, k ≠ 8 → h2 19 k = h1 19 k) → h2 19 8 = gr_stay nx (row + 1).toNat → am_WP mX0_sumUp 0 0 50 [some (am_R 19), some (am_I row)] [] ρ h2 Q := by
      intro h2 hrow a b c
      have b7 : h2 19 7 = h 19 7 := by rw [b 7 (by decide), g3]
      have b10 : h2 19 10 = gr_outs nx row.toNat := by rw [b 10 (by decide), ho]
      have t3 : h2 (A + 3) row = h (A + 3) row := a (A + 3) row (by simp <;> omega)
      have hrt := gr_out_rt h00 (hG row h0 hrow).2
      refine am_aload_n (pc' := 51) dX0_sumUp_50 rfl rfl rfl ?_
      refine am_iload_n (pc' := 52) dX0_sumUp_51 rfl rfl rfl ?_
      refine am_callVp (pc' := 55) (as := [_]) (ci := 0)  rfl dX0_sumUp_52 rfl ok_X0_goesOut ml_X0_122 im_X0_goesOut se_X0_goesOut rfl (Nat.le_of_ble_eq_true rfl) rfl (Nat.le_of_ble_eq_true rfl) (by first | assumption | exact ⟨by omega, by omega, rfl⟩) (t_goesOut hD (by omega) h0 (by omega)) ?_
      refine am_if_eq (pc' := 58) (tgt := 68) dX0_sumUp_55 rfl rfl (fun c_55 => ?_) (fun c_55 => ?_)
      · simp only [am_z0, am_z1, ne_eq] at c_55
        first | exact K68 h2 hrow a (fun k z1 z2 => b k z1) c (by rw [on, mt_ch_f (fun y => c_55 (by rw [t3]; exact hrt.mp y)), b10]; omega) | exact K68 _ hrow (am_fr_u a (by simp <;> omega)) (fun k z1 z2 => by rw [am_u_n (by omega)]; exact b k z1) (by rw [am_u_n (by omega)]; exact c) (by rw [am_u_s, on, mt_ch_t (hrt.mpr (by rw [← t3]; exact c_55)), b10]) | fail
      · simp only [am_z0, am_z1, ne_eq] at c_55
        refine am_aload_n (pc' := 59) dX0_sumUp_58 rfl rfl rfl ?_
        first | refine am_dupR (pc' := 60) dX0_sumUp_59 rfl ?_ | refine am_dupI (pc' := 60) dX0_sumUp_59 rfl ?_
        refine am_getIk (ki := 10) (pc' := 63) (k := 10) (ci := 0) rfl dX0_sumUp_60 rfl fl_X0_47 (by first | assumption | exact ⟨by omega, by omega, rfl⟩) rfl ?_
        refine am_iconst (pc' := 64) dX0_sumUp_63 rfl rfl ?_
        refine am_iadd (pc' := 65) dX0_sumUp_64 rfl ⟨by omega, by omega⟩ ?_
        refine am_putIk (ki := 10) (pc' := 68) (k := 10) (ci := 0) rfl dX0_sumUp_65 rfl fl_X0_47 (by first | assumption | exact ⟨by omega, by omega, rfl⟩) rfl (fun _ _ _ e => by cases e; rfl) ?_
        first | exact K68 h2 hrow a (fun k z1 z2 => b k z1) c (by rw [on, mt_ch_f (fun y => c_55 (by rw [t3]; exact hrt.mp y)), b10]; omega) | exact K68 _ hrow (am_fr_u a (by simp <;> omega)) (fun k z1 z2 => by rw [am_u_n (by omega)]; exact b k z1) (by rw [am_u_n (by omega)]; exact c) (by rw [am_u_s, on, mt_ch_t (hrt.mpr (by rw [← t3]; exact c_55)), b10]) | fail
    refine am_iload_n (pc' := 23) dX0_sumUp_22 rfl rfl rfl ?_
    refine am_aload_n (pc' := 24) dX0_sumUp_23 rfl rfl rfl ?_
    refine am_getIk (ki := 7) (pc' := 27) (k := 7) (ci := 0) rfl dX0_sumUp_24 rfl fl_X0_38 (by first | assumption | exact ⟨by omega, by omega, rfl⟩) rfl ?_
    refine am_icmp_ge (pc' := 30) (tgt := 102) dX0_sumUp_27 rfl rfl (fun c_27 => ?_) (fun c_27 => ?_)
    · refine am_retv dX0_sumUp_102 rfl ?_
      have e9 : row = h 19 7 := by omega
      subst e9
      rcases hl with z | ⟨z1, z2, z3⟩
      · omega
      · exact hq h1 hf hg hs ho z3
    · refine am_aload_n (pc' := 31) dX0_sumUp_30 rfl rfl rfl ?_
      refine am_getRk (ki := 1) (pc' := 34) (k := 1) (ci := 0) rfl dX0_sumUp_31 rfl fl_X0_18 (by first | assumption | exact ⟨by omega, by omega, rfl⟩) rfl (by assumption) (by omega) ?_
      refine am_iload_n (pc' := 35) dX0_sumUp_34 rfl rfl rfl ?_
      refine am_iaload (pc' := 36) dX0_sumUp_35 rfl (by first | assumption | exact ⟨by omega, by omega, rfl⟩) (by omega) (by omega) ?_
      rw [g4, hnx row h0 (by omega)]
      refine am_iload_n (pc' := 37) dX0_sumUp_36 rfl rfl rfl ?_
      refine am_icmp_ne (pc' := 40) (tgt := 50) dX0_sumUp_37 rfl rfl (fun c_37 => ?_) (fun c_37 => ?_)
      · first | exact K50 h1 (by omega) hf (fun _ _ => rfl) (by rw [sn, if_neg c_37, hs]; omega) | exact K50 _ (by omega) (am_fr_u hf (by simp <;> omega)) (fun k z => am_u_n (by omega)) (by rw [am_u_s, sn, if_pos c_37, hs]) | fail
      · refine am_aload_n (pc' := 41) dX0_sumUp_40 rfl rfl rfl ?_
        first | refine am_dupR (pc' := 42) dX0_sumUp_41 rfl ?_ | refine am_dupI (pc' := 42) dX0_sumUp_41 rfl ?_
        refine am_getIk (ki := 8) (pc' := 45) (k := 8) (ci := 0) rfl dX0_sumUp_42 rfl fl_X0_41 (by first | assumption | exact ⟨by omega, by omega, rfl⟩) rfl ?_
        refine am_iconst (pc' := 46) dX0_sumUp_45 rfl rfl ?_
        refine am_iadd (pc' := 47) dX0_sumUp_46 rfl ⟨by omega, by omega⟩ ?_
        refine am_putIk (ki := 8) (pc' := 50) (k := 8) (ci := 0) rfl dX0_sumUp_47 rfl fl_X0_41 (by first | assumption | exact ⟨by omega, by omega, rfl⟩) rfl (fun _ _ _ e => by cases e; rfl) ?_
        first | exact K50 h1 (by omega) hf (fun _ _ => rfl) (by rw [sn, if_neg c_37, hs]; omega) | exact K50 _ (by omega) (am_fr_u hf (by simp <;> omega)) (fun k z => am_u_n (by omega)) (by rw [am_u_s, sn, if_pos c_37, hs]) | fail
theorem t_sumUp {ρ h : am_H} {A L : Int} {nx : Int → Int} (hC : am_LC ρ) (hD : am_DA ρ A L) (hN : 0 < h 19 7 ∧ h 19 7 ≤ L) (hin : gr_in nx (h 19 7)) (hnx : ∀ c, 0 ≤ c → c < h 19 7 → h A c = nx c) (h00 : nx 0 = 0) (hG : ∀ c, 0 ≤ c → c < h 19 7 → gr_tl nx c (h (A + 4) c) ∧ gr_rt nx c (h (A + 3) c)) :
    am_CT mX0_sumUp 0 0 [am_R 19] ρ h (fun v ρ' h1 => v = none ∧ ρ' = ρ ∧ am_fr [19] h h1 ∧ (∀ k, k ≠ 8 → k ≠ 10 → k ≠ 12 → k ≠ 13 → h1 19 k = h 19 k) ∧ h1 19 8 = gr_stay nx (h 19 7).toNat ∧ h1 19 10 = gr_outs nx (h 19 7).toNat ∧ gr_lg (h (A + 4)) (h 19 7) (h1 19 12) (h1 19 13)) := by
  obtain ⟨k0, k1, k2, k3, k4, k5, ⟨e1, e2, e3, e4, e5⟩, ⟨l1, l2, l3, l4, l5⟩, hA, hL0, hL7⟩ := am_DAx hD
  have hn58 := hC.1
  refine am_ct (ls := [some (am_R 19), none]) ok_X0_sumUp rfl (fun _ => Nat.le_of_ble_eq_true rfl) (fun _ => rfl) (by intro v hv; simpa using hv) ?_
  refine am_aload_n (pc' := 1) dX0_sumUp_0 rfl rfl rfl ?_
  refine am_iconst (pc' := 2) dX0_sumUp_1 rfl rfl ?_
  refine am_putIk (ki := 8) (pc' := 5) (k := 8) (ci := 0) rfl dX0_sumUp_2 rfl fl_X0_41 (by first | assumption | exact ⟨by omega, by omega, rfl⟩) rfl (fun _ _ _ e => by cases e; rfl) ?_
  refine am_aload_n (pc' := 6) dX0_sumUp_5 rfl rfl rfl ?_
  refine am_iconst (pc' := 7) dX0_sumUp_6 rfl rfl ?_
  refine am_putIk (ki := 10) (pc' := 10) (k := 10) (ci := 0) rfl dX0_sumUp_7 rfl fl_X0_47 (by first | assumption | exact ⟨by omega, by omega, rfl⟩) rfl (fun _ _ _ e => by cases e; rfl) ?_
  refine am_aload_n (pc' := 11) dX0_sumUp_10 rfl rfl rfl ?_
  refine am_iconst (pc' := 12) dX0_sumUp_11 rfl rfl ?_
  refine am_putIk (ki := 12) (pc' := 15) (k := 12) (ci := 0) rfl dX0_sumUp_12 rfl fl_X0_53 (by first | assumption | exact ⟨by omega, by omega, rfl⟩) rfl (fun _ _ _ e => by cases e; rfl) ?_
  refine am_aload_n (pc' := 16) dX0_sumUp_15 rfl rfl rfl ?_
  refine am_iconst (pc' := 17) dX0_sumUp_16 rfl rfl ?_
  refine am_putIk (ki := 13) (pc' := 20) (k := 13) (ci := 0) rfl dX0_sumUp_17 rfl fl_X0_56 (by first | assumption | exact ⟨by omega, by omega, rfl⟩) rfl (fun _ _ _ e => by cases e; rfl) ?_
  refine am_iconst (pc' := 21) dX0_sumUp_20 rfl rfl ?_
  refine am_istore_n (pc' := 22) (ls' := [_, _]) dX0_sumUp_21 rfl rfl (Nat.le_of_ble_eq_true rfl) rfl rfl ?_
  refine t_sumUp_l hC hD hN hin hnx h00 hG (fun h1 a b c d e => ⟨rfl, rfl, a, b, c, d, e⟩) ((h 19 7).toNat + 1) 0 _ (by omega) (by omega) (by omega) (am_fr_u (am_fr_u (am_fr_u (am_fr_u am_fr_refl (by simp <;> omega)) (by simp <;> omega)) (by simp <;> omega)) (by simp <;> omega)) (fun k z1 z2 z3 z4 => by rw [am_u_n (by omega), am_u_n (by omega), am_u_n (by omega), am_u_n (by omega)]) (by rw [am_u_n (by omega), am_u_n (by omega), am_u_n (by omega), am_u_s]; rfl) (by rw [am_u_n (by omega), am_u_n (by omega), am_u_s]; rfl) (Or.inl ⟨rfl, by rw [am_u_n (by omega), am_u_s], am_u_s _ _ _ _⟩)
