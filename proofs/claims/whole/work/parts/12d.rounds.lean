/-! AllRows: the rounds -/
theorem gr_closed {nx : Int → Int} {c : Int} {s : Nat} (h : ∃ j, j < s ∧ gi nx s c = gi nx j c) : ∀ k, ∃ j, j < s ∧ gi nx k c = gi nx j c := by
  intro k
  induction k with
  | zero =>
    obtain ⟨j, hj, e⟩ := h
    exact ⟨0, by omega, rfl⟩
  | succ k ih =>
    obtain ⟨j, hj, e⟩ := ih
    have e2 : gi nx (k + 1) c = gi nx (j + 1) c := by
      show nx (gi nx k c) = nx (gi nx j c)
      rw [e]
    by_cases z : j + 1 < s
    · exact ⟨j + 1, z, e2⟩
    · obtain ⟨i, hi, e3⟩ := h
      exact ⟨i, hi, by rw [e2, show j + 1 = s by omega]; exact e3⟩
theorem t_mark_l {ρ h : am_H} {A L f : Int} {nx : Int → Int} {Q : am_Q} (hC : am_LC ρ) (hD : am_DA ρ A L) (hN : 0 < h 19 7 ∧ h 19 7 ≤ L) (hin : gr_in nx (h 19 7)) (hnx : ∀ c, 0 ≤ c → c < h 19 7 → h A c = nx c) (hf0 : 0 ≤ f ∧ f < h 19 7) (hfr : ∀ j, h (A + 3) (gi nx j f) = -9)
    (hq : ∀ h1, am_fr [A + 3, A + 4] h h1 → (∀ j, h1 (A + 3) (gi nx j f) = f ∧ h1 (A + 4) (gi nx j f) = 0) → (∀ c, (∀ j, c ≠ gi nx j f) → h1 (A + 3) c = h (A + 3) c ∧ h1 (A + 4) c = h (A + 4) c) → Q none ρ h1) :
    ∀ (n : Nat) (s : Int) (h1 : am_H), (h 19 7 - s).toNat < n → 0 ≤ s → s ≤ h 19 7 → am_fr [A + 3, A + 4] h h1 → (∀ j : Nat, (j : Int) < s → h1 (A + 3) (gi nx j f) = f ∧ h1 (A + 4) (gi nx j f) = 0) → (∀ c, (∀ j : Nat, (j : Int) < s → c ≠ gi nx j f) → h1 (A + 3) c = h (A + 3) c ∧ h1 (A + 4) c = h (A + 4) c) → (∀ i j : Nat, i < j → (j : Int) < s → gi nx i f ≠ gi nx j f) →
      am_WP mX0_markRound 0 0 4 [some (am_R 19), some (am_I f), some (am_I (gi nx s.toNat f)), some (am_I s)] [] ρ h1 Q := by
  obtain ⟨k0, k1, k2, k3, k4, k5, ⟨e1, e2, e3, e4, e5⟩, ⟨l1, l2, l3, l4, l5⟩, hA, hL0, hL7⟩ := am_DAx hD
  have hn58 := hC.1
  intro n
  induction n with
  | zero => intro s h1 hk; omega
  | succ n ih =>
    intro s h1 hk h0 h9 hf hm hu hd
    have g3 : h1 19 7 = h 19 7 := hf 19 7 (by simp <;> omega)
    have g4 : h1 A = h A := funext fun k => hf A k (by simp <;> omega)
    have hrow := gi_in hin hf0.1 hf0.2 s.toNat
    have fin : (∃ j, j < s.toNat ∧ gi nx s.toNat f = gi nx j f) → Q none ρ h1 := fun hx => by
      have hcl := gr_closed hx
      refine hq h1 hf (fun j => ?_) (fun c z => hu c (fun j _ => z j))
      obtain ⟨i, hi, e⟩ := hcl j
      rw [e]
      exact hm i (by omega)
    refine am_iload_n (pc' := 5) dX0_markRound_4 rfl rfl rfl ?_
    refine am_aload_n (pc' := 6) dX0_markRound_5 rfl rfl rfl ?_
    refine am_getIk (ki := 7) (pc' := 9) (k := 7) (ci := 0) rfl dX0_markRound_6 rfl fl_X0_38 (by first | assumption | exact ⟨by omega, by omega, rfl⟩) rfl ?_
    refine am_icmp_ge (pc' := 12) (tgt := 49) dX0_markRound_9 rfl rfl (fun c_9 => ?_) (fun c_9 => ?_)
    · refine am_retv dX0_markRound_49 rfl ?_
      first | exact fin (by obtain ⟨i, j, hij, hj, e⟩ := gr_two (N := h 19 7) (fun k => gi nx k f) s.toNat (by omega) (fun i _ => gi_in hin hf0.1 hf0.2 i); by_cases z : j < s.toNat; exact absurd e (hd i j hij (by omega)); exact ⟨i, by omega, by rw [show s.toNat = j by omega]; exact e.symm⟩) | exact fin (Classical.byContradiction fun z => c_20 (by rw [(hu _ (fun j hj e => z ⟨j, by omega, e⟩)).1]; exact hfr _))
    · refine am_aload_n (pc' := 13) dX0_markRound_12 rfl rfl rfl ?_
      refine am_getRk (ki := 4) (pc' := 16) (k := 4) (ci := 0) rfl dX0_markRound_13 rfl fl_X0_28 (by first | assumption | exact ⟨by omega, by omega, rfl⟩) rfl (by assumption) (by omega) ?_
      refine am_iload_n (pc' := 17) dX0_markRound_16 rfl rfl rfl ?_
      refine am_iaload (pc' := 18) dX0_markRound_17 rfl (by first | assumption | exact ⟨by omega, by omega, rfl⟩) (by omega) (by omega) ?_
      refine am_bipush (pc' := 20) dX0_markRound_18 rfl rfl (by decide) ?_
      refine am_icmp_ne (pc' := 23) (tgt := 49) dX0_markRound_20 rfl rfl (fun c_20 => ?_) (fun c_20 => ?_)
      · refine am_retv dX0_markRound_49 rfl ?_
        first | exact fin (by obtain ⟨i, j, hij, hj, e⟩ := gr_two (N := h 19 7) (fun k => gi nx k f) s.toNat (by omega) (fun i _ => gi_in hin hf0.1 hf0.2 i); by_cases z : j < s.toNat; exact absurd e (hd i j hij (by omega)); exact ⟨i, by omega, by rw [show s.toNat = j by omega]; exact e.symm⟩) | exact fin (Classical.byContradiction fun z => c_20 (by rw [(hu _ (fun j hj e => z ⟨j, by omega, e⟩)).1]; exact hfr _))
      · have hnew : ∀ j : Nat, (j : Int) < s → gi nx s.toNat f ≠ gi nx j f := fun j hj e => by rw [e, (hm j hj).1] at c_20; omega
        refine am_aload_n (pc' := 24) dX0_markRound_23 rfl rfl rfl ?_
        refine am_getRk (ki := 4) (pc' := 27) (k := 4) (ci := 0) rfl dX0_markRound_24 rfl fl_X0_28 (by first | assumption | exact ⟨by omega, by omega, rfl⟩) rfl (by assumption) (by omega) ?_
        refine am_iload_n (pc' := 28) dX0_markRound_27 rfl rfl rfl ?_
        refine am_iload_n (pc' := 29) dX0_markRound_28 rfl rfl rfl ?_
        refine am_iastore (pc' := 30) dX0_markRound_29 rfl (by first | assumption | exact ⟨by omega, by omega, rfl⟩) (by omega) (by omega) ?_
        refine am_aload_n (pc' := 31) dX0_markRound_30 rfl rfl rfl ?_
        refine am_getRk (ki := 5) (pc' := 34) (k := 5) (ci := 0) rfl dX0_markRound_31 rfl fl_X0_31 (by first | assumption | exact ⟨by omega, by omega, rfl⟩) rfl (by assumption) (by omega) ?_
        refine am_iload_n (pc' := 35) dX0_markRound_34 rfl rfl rfl ?_
        refine am_iconst (pc' := 36) dX0_markRound_35 rfl rfl ?_
        refine am_iastore (pc' := 37) dX0_markRound_36 rfl (by first | assumption | exact ⟨by omega, by omega, rfl⟩) (by omega) (by omega) ?_
        refine am_aload_n (pc' := 38) dX0_markRound_37 rfl rfl rfl ?_
        refine am_iload_n (pc' := 39) dX0_markRound_38 rfl rfl rfl ?_
        refine am_callVp (pc' := 42) (as := [_]) (ci := 0)  rfl dX0_markRound_39 rfl ok_X0_nextOf ml_X0_115 im_X0_nextOf se_X0_nextOf rfl (Nat.le_of_ble_eq_true rfl) rfl (Nat.le_of_ble_eq_true rfl) (by first | assumption | exact ⟨by omega, by omega, rfl⟩) (t_nextOf (h := am_u (am_u h1 (A + 3) (gi nx s.toNat f) f) (A + 4) (gi nx s.toNat f) 0) hD (by rw [am_u_n (by omega), am_u_n (by omega)]; omega) hrow.1 (by rw [am_u_n (by omega), am_u_n (by omega)]; omega)) ?_
        rw [am_u_n (by omega), am_u_n (by omega), g4, hnx _ hrow.1 hrow.2]
        refine am_istore_n (pc' := 43) (ls' := [_, _, _, _]) dX0_markRound_42 rfl rfl (Nat.le_of_ble_eq_true rfl) rfl rfl ?_
        refine am_iinc (pc' := 46) (ls' := [_, _, _, _]) dX0_markRound_43 rfl rfl ⟨by omega, by omega⟩ (Nat.le_of_ble_eq_true rfl) rfl rfl ?_
        refine am_goto (pc' := 4) dX0_markRound_46 rfl ?_
        rw [show nx (gi nx s.toNat f) = gi nx (s + 1).toNat f by rw [show (s + 1).toNat = s.toNat + 1 by omega]; rfl]
        refine ih _ _ (by omega) (by omega) (by omega) (am_fr_u (am_fr_u hf (by simp <;> omega)) (by simp <;> omega)) (fun j hj => ?_) (fun c hc => ?_) (fun i j hij hj => ?_)
        · by_cases z : (j : Int) < s
          · rw [am_u_n (by omega), am_u_n (fun y => hnew j z y.2.symm), am_u_n (fun y => hnew j z y.2.symm), am_u_n (by omega)]; exact hm j z
          · rw [show j = s.toNat by omega, am_u_n (by omega), am_u_s, am_u_s]; exact ⟨rfl, rfl⟩
        · have hcs := hc s.toNat (by omega)
          rw [am_u_n (by omega), am_u_n (fun y => hcs y.2), am_u_n (fun y => hcs y.2), am_u_n (by omega)]
          exact hu c (fun j hj => hc j (by omega))
        · by_cases z : (j : Int) < s
          · exact hd i j hij z
          · rw [show j = s.toNat by omega]; exact fun y => hnew i (by omega) y.symm
theorem t_mark {ρ h : am_H} {A L f : Int} {nx : Int → Int} (hC : am_LC ρ) (hD : am_DA ρ A L) (hN : 0 < h 19 7 ∧ h 19 7 ≤ L) (hin : gr_in nx (h 19 7)) (hnx : ∀ c, 0 ≤ c → c < h 19 7 → h A c = nx c) (hf0 : 0 ≤ f ∧ f < h 19 7) (hfr : ∀ j, h (A + 3) (gi nx j f) = -9) : am_CT mX0_markRound 0 0 [am_R 19, am_I f] ρ h (fun v ρ' h1 => v = none ∧ ρ' = ρ ∧ am_fr [A + 3, A + 4] h h1 ∧ (∀ j, h1 (A + 3) (gi nx j f) = f ∧ h1 (A + 4) (gi nx j f) = 0) ∧ (∀ c, (∀ j, c ≠ gi nx j f) → h1 (A + 3) c = h (A + 3) c ∧ h1 (A + 4) c = h (A + 4) c)) := by
  refine am_ct (ls := [some (am_R 19), some (am_I f), none, none]) ok_X0_markRound rfl (fun _ => Nat.le_of_ble_eq_true rfl) (fun _ => rfl) (by intro v hv; simpa using hv) ?_
  refine am_iload_n (pc' := 1) dX0_markRound_0 rfl rfl rfl ?_
  refine am_istore_n (pc' := 2) (ls' := [_, _, _, _]) dX0_markRound_1 rfl rfl (Nat.le_of_ble_eq_true rfl) rfl rfl ?_
  refine am_iconst (pc' := 3) dX0_markRound_2 rfl rfl ?_
  refine am_istore_n (pc' := 4) (ls' := [_, _, _, _]) dX0_markRound_3 rfl rfl (Nat.le_of_ble_eq_true rfl) rfl rfl ?_
  exact t_mark_l hC hD hN hin hnx hf0 hfr (fun h1 a b c => ⟨rfl, rfl, a, b, c⟩) ((h 19 7).toNat + 1) 0 h (by omega) (by omega) (by omega) am_fr_refl (fun j hj => by omega) (fun c _ => ⟨rfl, rfl⟩) (fun i j _ hj => by omega)
/-- a round's first row -/
def gr_first (nx : Int → Int) (q : Int) : Prop := onc nx q ∧ ∀ t, q ≤ gi nx t q
noncomputable def gr_rounds (nx : Int → Int) (n : Nat) : Int := mt_sum (fun q => mt_ch (gr_first nx q)) n
theorem t_findRounds_l {ρ h : am_H} {A L : Int} {nx : Int → Int} {Q : am_Q} (hC : am_LC ρ) (hD : am_DA ρ A L) (hN : 0 < h 19 7 ∧ h 19 7 ≤ L) (hin : gr_in nx (h 19 7)) (hnx : ∀ c, 0 ≤ c → c < h 19 7 → h A c = nx c) (hcm : ∀ c, 0 ≤ c → c < h 19 7 → (0 < h (A + 1) c ↔ onc nx c))
    (hq : ∀ h1, am_fr [19, A + 3, A + 4] h h1 → (∀ k, k ≠ 11 → h1 19 k = h 19 k) → h1 19 11 = gr_rounds nx (h 19 7).toNat → (∀ c, 0 ≤ c → c < h 19 7 → onc nx c → gr_rt nx c (h1 (A + 3) c) ∧ h1 (A + 4) c = 0) → Q none ρ h1) :
    ∀ (n : Nat) (row : Int) (h1 : am_H), (h 19 7 - row).toNat < n → 0 ≤ row → row ≤ h 19 7 → am_fr [19, A + 3, A + 4] h h1 → (∀ k, k ≠ 11 → h1 19 k = h 19 k) → h1 19 11 = gr_rounds nx row.toNat → (∀ c, 0 ≤ c → c < h 19 7 → onc nx c → ((∃ j, gi nx j c < row) → gr_rt nx c (h1 (A + 3) c) ∧ h1 (A + 4) c = 0) ∧ ((∀ j, row ≤ gi nx j c) → h1 (A + 3) c = -9)) →
      am_WP mX0_findRounds 0 0 16 [some (am_R 19), some (am_I row)] [] ρ h1 Q := by
  obtain ⟨k0, k1, k2, k3, k4, k5, ⟨e1, e2, e3, e4, e5⟩, ⟨l1, l2, l3, l4, l5⟩, hA, hL0, hL7⟩ := am_DAx hD
  have hn58 := hC.1
  intro n
  induction n with
  | zero => intro row h1 hk; omega
  | succ n ih =>
    intro row h1 hk h0 h9 hf hg hr hall
    have g3 : h1 19 7 = h 19 7 := hg 7 (by decide)
    have g4 : h1 A = h A := funext fun k => hf A k (by simp <;> omega)
    have g5 : h1 (A + 1) = h (A + 1) := funext fun k => hf (A + 1) k (by simp <;> omega)
    have hrb : 0 ≤ gr_rounds nx row.toNat ∧ gr_rounds nx row.toNat ≤ row := by
      have := mt_sum_nn (f := fun q => mt_ch (gr_first nx q)) (M := 1) (n := row.toNat) (fun p _ _ => mt_ch_in _)
      unfold gr_rounds
      omega
    have hrn : gr_rounds nx (row + 1).toNat = gr_rounds nx row.toNat + mt_ch (gr_first nx row) := mt_sum_next _ h0
    have K : ∀ h2, row < h 19 7 → am_fr [19, A + 3, A + 4] h h2 → (∀ k, k ≠ 11 → h2 19 k = h 19 k) → h2 19 11 = gr_rounds nx (row + 1).toNat → (∀ c, 0 ≤ c → c < h 19 7 → onc nx c → ((∃ j, gi nx j c < row + 1) → gr_rt nx c (h2 (A + 3) c) ∧ h2 (A + 4) c = 0) ∧ ((∀ j, row + 1 ≤ gi nx j c) → h2 (A + 3) c = -9)) → am_WP mX0_findRounds 0 0 59 [some (am_R 19), some (am_I row)] [] ρ h2 Q := by
      intro h2 hrow a b c d
      refine am_iinc (pc' := 62) (ls' := [_, _]) dX0_findRounds_59 rfl rfl ⟨by omega, by omega⟩ (Nat.le_of_ble_eq_true rfl) rfl rfl ?_
      refine am_goto (pc' := 16) dX0_findRounds_62 rfl ?_
      exact ih _ _ (by omega) (by omega) (by omega) a b c d
    have same : (∀ c, 0 ≤ c → c < h 19 7 → onc nx c → (∃ j, gi nx j c < row + 1) → ∃ j, gi nx j c < row) → ¬ gr_first nx row → row < h 19 7 → am_WP mX0_findRounds 0 0 59 [some (am_R 19), some (am_I row)] [] ρ h1 Q := fun hs hnf hrow => by
      refine K h1 hrow hf hg (by rw [hrn, mt_ch_f hnf, hr]; omega) (fun c c0 c1 hc => ⟨fun z => (hall c c0 c1 hc).1 (hs c c0 c1 hc z), fun z => (hall c c0 c1 hc).2 (fun j => by have := z j; omega)⟩)
    have S1 : ¬ onc nx row → row < h 19 7 → am_WP mX0_findRounds 0 0 59 [some (am_R 19), some (am_I row)] [] ρ h1 Q := by
      intro hno hrow
      refine same (fun c c0 c1 hc hj => ?_) (fun y => hno y.1) hrow
      obtain ⟨j, hj⟩ := hj
      by_cases z : gi nx j c < row
      · exact ⟨j, z⟩
      · have ez : gi nx j c = row := by omega
        have ho := onc_gi hc j
        rw [ez] at ho
        exact absurd ho hno
    have S2 : onc nx row → h1 (A + 3) row ≠ -9 → row < h 19 7 → am_WP mX0_findRounds 0 0 59 [some (am_R 19), some (am_I row)] [] ρ h1 Q := by
      intro honc hr9 hrow
      have hlt : ∃ j, gi nx j row < row := Classical.byContradiction fun z => hr9 ((hall row h0 hrow honc).2 (fun j => by
        by_cases y : gi nx j row < row
        · exact absurd ⟨j, y⟩ z
        · omega))
      obtain ⟨i, hi⟩ := hlt
      refine same (fun c c0 c1 hc hj => ?_) (fun y => by have := y.2 i; omega) hrow
      obtain ⟨j, hj⟩ := hj
      by_cases z : gi nx j c < row
      · exact ⟨j, z⟩
      · exact ⟨i + j, by rw [gi_add, show gi nx j c = row by omega]; exact hi⟩
    have M59 : ∀ h2, onc nx row → (∀ j, row ≤ gi nx j row) → row < h 19 7 → am_fr [A + 3, A + 4] (am_u h1 19 11 (h1 19 11 + 1)) h2 → (∀ j, h2 (A + 3) (gi nx j row) = row ∧ h2 (A + 4) (gi nx j row) = 0) → (∀ c, (∀ j, c ≠ gi nx j row) → h2 (A + 3) c = am_u h1 19 11 (h1 19 11 + 1) (A + 3) c ∧ h2 (A + 4) c = am_u h1 19 11 (h1 19 11 + 1) (A + 4) c) → am_WP mX0_findRounds 0 0 59 [some (am_R 19), some (am_I row)] [] ρ h2 Q := by
      intro h2 honc hmin hrow q1 q2 q3
      refine K h2 hrow (am_fr_trans (am_fr_u hf (by simp <;> omega)) (am_fr_sub q1 (by intro x hx; simp at hx ⊢; omega))) (fun k hk => by rw [q1 19 k (by simp <;> omega), am_u_n (by omega)]; exact hg k hk) (by rw [q1 19 11 (by simp <;> omega), am_u_s, hrn, mt_ch_t ⟨honc, hmin⟩, hr]) (fun c c0 c1 hc => ?_)
      by_cases hcy : ∃ j, c = gi nx j row
      · obtain ⟨j, e⟩ := hcy
        obtain ⟨k, hk⟩ := onc_back honc j
        rw [← e] at hk
        have hj := q2 j
        rw [← e] at hj
        exact ⟨fun _ => ⟨by rw [hj.1]; exact ⟨honc, k, hk⟩, hj.2⟩, fun z => by have := z k; rw [hk] at this; omega⟩
      · have hno : ∀ j, c ≠ gi nx j row := fun j e => hcy ⟨j, e⟩
        have hq := q3 c hno
        rw [am_u_n (by omega), am_u_n (by omega)] at hq
        rw [hq.1, hq.2]
        refine ⟨fun ⟨j, hj⟩ => (hall c c0 c1 hc).1 ?_, fun z => (hall c c0 c1 hc).2 (fun j => by have := z j; omega)⟩
        by_cases z : gi nx j c < row
        · exact ⟨j, z⟩
        · obtain ⟨k, hk⟩ := onc_back hc j
          rw [show gi nx j c = row by omega] at hk
          exact absurd hk.symm (hno k)
    refine am_iload_n (pc' := 17) dX0_findRounds_16 rfl rfl rfl ?_
    refine am_aload_n (pc' := 18) dX0_findRounds_17 rfl rfl rfl ?_
    refine am_getIk (ki := 7) (pc' := 21) (k := 7) (ci := 0) rfl dX0_findRounds_18 rfl fl_X0_38 (by first | assumption | exact ⟨by omega, by omega, rfl⟩) rfl ?_
    refine am_icmp_ge (pc' := 24) (tgt := 65) dX0_findRounds_21 rfl rfl (fun c_21 => ?_) (fun c_21 => ?_)
    · refine am_retv dX0_findRounds_65 rfl ?_
      have e9 : row = h 19 7 := by omega
      subst e9
      exact hq h1 hf hg hr (fun c c0 c1 hc => (hall c c0 c1 hc).1 ⟨0, c1⟩)
    · refine am_aload_n (pc' := 25) dX0_findRounds_24 rfl rfl rfl ?_
      refine am_getRk (ki := 2) (pc' := 28) (k := 2) (ci := 0) rfl dX0_findRounds_25 rfl fl_X0_22 (by first | assumption | exact ⟨by omega, by omega, rfl⟩) rfl (by assumption) (by omega) ?_
      refine am_iload_n (pc' := 29) dX0_findRounds_28 rfl rfl rfl ?_
      refine am_iaload (pc' := 30) dX0_findRounds_29 rfl (by first | assumption | exact ⟨by omega, by omega, rfl⟩) (by omega) (by omega) ?_
      refine am_if_le (pc' := 33) (tgt := 59) dX0_findRounds_30 rfl rfl (fun c_30 => ?_) (fun c_30 => ?_)
      · first | exact S1 (fun y => by have y2 := (hcm row h0 (by omega)).mpr y; rw [← g5] at y2; omega) (by omega) | exact M59 _ honc hmin (by omega) q1 q2 q3 | exact S2 honc c_41 (by omega)
      · have honc : onc nx row := (hcm row h0 (by omega)).mp (by rw [← g5]; omega)
        refine am_aload_n (pc' := 34) dX0_findRounds_33 rfl rfl rfl ?_
        refine am_getRk (ki := 4) (pc' := 37) (k := 4) (ci := 0) rfl dX0_findRounds_34 rfl fl_X0_28 (by first | assumption | exact ⟨by omega, by omega, rfl⟩) rfl (by assumption) (by omega) ?_
        refine am_iload_n (pc' := 38) dX0_findRounds_37 rfl rfl rfl ?_
        refine am_iaload (pc' := 39) dX0_findRounds_38 rfl (by first | assumption | exact ⟨by omega, by omega, rfl⟩) (by omega) (by omega) ?_
        refine am_bipush (pc' := 41) dX0_findRounds_39 rfl rfl (by decide) ?_
        refine am_icmp_ne (pc' := 44) (tgt := 59) dX0_findRounds_41 rfl rfl (fun c_41 => ?_) (fun c_41 => ?_)
        · first | exact S1 (fun y => by have y2 := (hcm row h0 (by omega)).mpr y; rw [← g5] at y2; omega) (by omega) | exact M59 _ honc hmin (by omega) q1 q2 q3 | exact S2 honc c_41 (by omega)
        · have hmin : ∀ j, row ≤ gi nx j row := fun j => by by_cases z : gi nx j row < row; (have hz := (hall row h0 (by omega) honc).1 ⟨j, z⟩; obtain ⟨-, t, ht⟩ := hz.1; rw [c_41] at ht; have := gi_in hin h0 (by omega : row < h 19 7) t; omega); omega
          have hun : ∀ j, h1 (A + 3) (gi nx j row) = -9 := fun j => by have hj := gi_in hin h0 (by omega : row < h 19 7) j; exact (hall _ hj.1 hj.2 (onc_gi honc j)).2 (fun i => by rw [← gi_add]; exact hmin _)
          refine am_aload_n (pc' := 45) dX0_findRounds_44 rfl rfl rfl ?_
          first | refine am_dupR (pc' := 46) dX0_findRounds_45 rfl ?_ | refine am_dupI (pc' := 46) dX0_findRounds_45 rfl ?_
          refine am_getIk (ki := 11) (pc' := 49) (k := 11) (ci := 0) rfl dX0_findRounds_46 rfl fl_X0_50 (by first | assumption | exact ⟨by omega, by omega, rfl⟩) rfl ?_
          refine am_iconst (pc' := 50) dX0_findRounds_49 rfl rfl ?_
          refine am_iadd (pc' := 51) dX0_findRounds_50 rfl ⟨by omega, by omega⟩ ?_
          refine am_putIk (ki := 11) (pc' := 54) (k := 11) (ci := 0) rfl dX0_findRounds_51 rfl fl_X0_50 (by first | assumption | exact ⟨by omega, by omega, rfl⟩) rfl (fun _ _ _ e => by cases e; rfl) ?_
          refine am_aload_n (pc' := 55) dX0_findRounds_54 rfl rfl rfl ?_
          refine am_iload_n (pc' := 56) dX0_findRounds_55 rfl rfl rfl ?_
          refine am_callV0 (pc' := 59) (as := [_]) (ci := 0)  rfl dX0_findRounds_56 rfl ok_X0_markRound ml_X0_119 im_X0_markRound se_X0_markRound rfl (Nat.le_of_ble_eq_true rfl) rfl (Nat.le_of_ble_eq_true rfl) (by first | assumption | exact ⟨by omega, by omega, rfl⟩) (t_mark hC hD (nx := nx) (h := am_u h1 19 11 (h1 19 11 + 1)) (by rw [am_u_n (by omega)]; omega) (by rw [am_u_n (by omega), g3]; exact hin) (fun c c0 c1 => by rw [am_u_n (by omega)] at c1; rw [am_u_n (by omega), g4]; exact hnx c c0 (by omega)) (by rw [am_u_n (by omega)]; omega) (fun j => by rw [am_u_n (by omega)]; exact hun j)) (fun r_56 ρ_56 h_56 q_56 g_56 e_56 => ?_)
          obtain ⟨rfl, rfl, q1, q2, q3⟩ := q_56
          first | exact S1 (fun y => by have y2 := (hcm row h0 (by omega)).mpr y; rw [← g5] at y2; omega) (by omega) | exact M59 _ honc hmin (by omega) q1 q2 q3 | exact S2 honc c_41 (by omega)
theorem t_findRounds {ρ h : am_H} {A L : Int} {nx : Int → Int} (hC : am_LC ρ) (hD : am_DA ρ A L) (hN : 0 < h 19 7 ∧ h 19 7 ≤ L) (hin : gr_in nx (h 19 7)) (hnx : ∀ c, 0 ≤ c → c < h 19 7 → h A c = nx c) (hcm : ∀ c, 0 ≤ c → c < h 19 7 → (0 < h (A + 1) c ↔ onc nx c)) :
    am_CT mX0_findRounds 0 0 [am_R 19] ρ h (fun v ρ' h1 => v = none ∧ ρ' = ρ ∧ am_fr [19, A + 3, A + 4] h h1 ∧ (∀ k, k ≠ 11 → h1 19 k = h 19 k) ∧ h1 19 11 = gr_rounds nx (h 19 7).toNat ∧ (∀ c, 0 ≤ c → c < h 19 7 → onc nx c → gr_rt nx c (h1 (A + 3) c) ∧ h1 (A + 4) c = 0)) := by
  obtain ⟨k0, k1, k2, k3, k4, k5, ⟨e1, e2, e3, e4, e5⟩, ⟨l1, l2, l3, l4, l5⟩, hA, hL0, hL7⟩ := am_DAx hD
  have hn58 := hC.1
  refine am_ct (ls := [some (am_R 19), none]) ok_X0_findRounds rfl (fun _ => Nat.le_of_ble_eq_true rfl) (fun _ => rfl) (by intro v hv; simpa using hv) ?_
  refine am_aload_n (pc' := 1) dX0_findRounds_0 rfl rfl rfl ?_
  refine am_iconst (pc' := 2) dX0_findRounds_1 rfl rfl ?_
  refine am_putIk (ki := 11) (pc' := 5) (k := 11) (ci := 0) rfl dX0_findRounds_2 rfl fl_X0_50 (by first | assumption | exact ⟨by omega, by omega, rfl⟩) rfl (fun _ _ _ e => by cases e; rfl) ?_
  refine am_aload_n (pc' := 6) dX0_findRounds_5 rfl rfl rfl ?_
  refine am_getRk (ki := 4) (pc' := 9) (k := 4) (ci := 0) rfl dX0_findRounds_6 rfl fl_X0_28 (by first | assumption | exact ⟨by omega, by omega, rfl⟩) rfl (by assumption) (by omega) ?_
  refine am_bipush (pc' := 11) dX0_findRounds_9 rfl rfl (by decide) ?_
  refine am_callS0 (pc' := 14) (as := [_, _])  rfl dX0_findRounds_11 rfl ok_J7_fill_53178 ml_X0_91 sm_J7_fill_53178 (Nat.le_of_ble_eq_true rfl) rfl (Nat.le_of_ble_eq_true rfl) (t_fill k4 l4 (by omega) (by omega)) (fun r_11 ρ_11 h_11 q_11 g_11 e_11 => ?_)
  obtain ⟨rfl, rfl, f1, f2⟩ := q_11
  refine am_iconst (pc' := 15) dX0_findRounds_14 rfl rfl ?_
  refine am_istore_n (pc' := 16) (ls' := [_, _]) dX0_findRounds_15 rfl rfl (Nat.le_of_ble_eq_true rfl) rfl rfl ?_
  refine t_findRounds_l hC hD hN hin hnx hcm (fun h1 a b c d => ⟨rfl, rfl, a, b, c, d⟩) ((h 19 7).toNat + 1) 0 _ (by omega) (by omega) (by omega) (am_fr_trans (am_fr_u am_fr_refl (by simp <;> omega)) (am_fr_sub f1 (by intro x hx; simp at hx ⊢; omega))) (fun k hk => by rw [f1 19 k (by simp <;> omega), am_u_n (by omega)]) (by rw [f1 19 11 (by simp <;> omega), am_u_s]; rfl) (fun c c0 c1 hc => ⟨fun ⟨j, hj⟩ => by have := gi_in hin c0 c1 j; omega, fun _ => f2 c c0 (by omega)⟩)
