/-! Spread: cell 29; row 0, weight 1, place 2, unlike 3, age 4 -/
theorem am_DSx {ρ : am_H} {S K : Int} (h : am_DS ρ S K) : am_in ρ 29 5 ∧ am_in ρ S 8 ∧ am_in ρ (S + 1) 8 ∧ am_in ρ (S + 2) 8 ∧ (ρ 29 0 = S ∧ ρ 29 1 = S + 1 ∧ ρ 29 2 = S + 2) ∧ (ρ S (-1) = K ∧ ρ (S + 1) (-1) = K ∧ ρ (S + 2) (-1) = K) ∧ (S = 30 ∨ 58 ≤ S) ∧ 0 ≤ K ∧ K ≤ 7776 := by
  obtain ⟨h1, h2, h3, h4, h5, h6, h7⟩ := h
  exact ⟨h1, ⟨by omega, by omega, am_K8 (by omega)⟩, ⟨by omega, by omega, am_K8 (by omega)⟩, ⟨by omega, by omega, am_K8 (by omega)⟩, h4, h5, h2, h6, h7⟩
theorem mt_sum_le {f : Int → Int} {n : Nat} (hf : ∀ p : Int, 0 ≤ p → p < n → 0 ≤ f p) {d : Int} (h0 : 0 ≤ d) (h1 : d < n) : f d ≤ mt_sum f n := by
  have e := mt_sum_one (f := f) (g := fun p => if p = d then 0 else f p) (d := d) (n := n) h0 h1 (fun p _ _ hp => by simp [hp])
  have g := mt_sum_ge (f := fun p => if p = d then 0 else f p) (n := n) (fun p p0 p1 => by
    show 0 ≤ if p = d then 0 else f p
    split
    · omega
    · exact hf p p0 p1)
  simp at e
  omega
theorem mt_sum_le2 {f : Int → Int} {n : Nat} (hf : ∀ p : Int, 0 ≤ p → p < n → 0 ≤ f p) {d e : Int} (h0 : 0 ≤ d) (h1 : d < n) (e0 : 0 ≤ e) (e1 : e < n) (hne : e ≠ d) : f d + f e ≤ mt_sum f n := by
  have e9 := mt_sum_one (f := f) (g := fun p => if p = d then 0 else f p) (d := d) (n := n) h0 h1 (fun p _ _ hp => by simp [hp])
  have g := mt_sum_le (f := fun p => if p = d then 0 else f p) (n := n) (d := e) (fun p p0 p1 => by
    show 0 ≤ if p = d then 0 else f p
    split
    · omega
    · exact hf p p0 p1) e0 e1
  simp [hne] at e9 g
  omega
theorem mt_sum_1 : ∀ n : Nat, mt_sum (fun _ => 1) n = n
  | 0 => rfl
  | n + 1 => by
    show mt_sum (fun _ => 1) n + 1 = _
    rw [mt_sum_1 n]; omega
/-- how the rows after a steps are spread -/
def sp_V (h : am_H) (S N U : Int) (nx : Int → Int) (a : Nat) : Prop :=
  (0 ≤ U ∧ U ≤ N) ∧ (∀ k, 0 ≤ k → k < U → (0 ≤ h S k ∧ h S k < N) ∧ 0 ≤ h (S + 1) k) ∧ ∀ φ : Int → Int, mt_sum (fun k => h (S + 1) k * φ (h S k)) U.toNat = mt_sum (fun r => φ (gi nx a r)) N.toNat
def sp_g (h : am_H) (S : Int) (nx φ : Int → Int) (kept at' : Int) : Int → Int := fun k => if k < kept then h (S + 1) k * φ (h S k) else if k < at' then 0 else h (S + 1) k * φ (nx (h S k))
def sp_L (h : am_H) (S N U : Int) (nx : Int → Int) (a : Nat) (kept at' : Int) : Prop :=
  (∀ k, 0 ≤ k → k < U → (k < kept ∨ at' ≤ k) → (0 ≤ h S k ∧ h S k < N) ∧ 0 ≤ h (S + 1) k) ∧ ∀ φ : Int → Int, mt_sum (sp_g h S nx φ kept at') U.toNat = mt_sum (fun r => φ (gi nx (a + 1) r)) N.toNat
theorem sp_g1 {h : am_H} {S N U kept t : Int} {nx : Int → Int} {a : Nat} (hL : sp_L h S N U nx a kept t) (hk : 0 ≤ kept ∧ kept ≤ t) (hN : 0 ≤ N) : (∀ p : Int, 0 ≤ p → p < U.toNat → 0 ≤ sp_g h S nx (fun _ => 1) kept t p) ∧ mt_sum (sp_g h S nx (fun _ => 1) kept t) U.toNat = N := by
  refine ⟨fun p p0 p1 => ?_, ?_⟩
  · unfold sp_g
    split
    · have := (hL.1 p p0 (by omega) (Or.inl (by omega))).2
      simp only [Int.mul_one]; exact this
    · split
      · omega
      · have := (hL.1 p p0 (by omega) (Or.inr (by omega))).2
        simp only [Int.mul_one]; exact this
  · rw [hL.2, mt_sum_1]; omega
theorem sp_b1 {h : am_H} {S N U kept t : Int} {nx : Int → Int} {a : Nat} (hL : sp_L h S N U nx a kept t) (hk : 0 ≤ kept ∧ kept ≤ t) (hN : 0 ≤ N) (h0 : 0 ≤ t) (h1 : t < U) : 0 ≤ h (S + 1) t ∧ h (S + 1) t ≤ N := by
  have g := sp_g1 hL hk hN
  have l := mt_sum_le g.1 h0 (by omega)
  rw [g.2] at l
  unfold sp_g at l
  rw [if_neg (by omega), if_neg (by omega)] at l
  simp only [Int.mul_one] at l
  have := (hL.1 t h0 h1 (Or.inr (by omega))).2
  omega
theorem sp_b2 {h : am_H} {S N U kept t k : Int} {nx : Int → Int} {a : Nat} (hL : sp_L h S N U nx a kept t) (hk : 0 ≤ kept ∧ kept ≤ t) (hN : 0 ≤ N) (h0 : 0 ≤ t) (h1 : t < U) (k0 : 0 ≤ k) (k1 : k < kept) : 0 ≤ h (S + 1) k ∧ h (S + 1) k + h (S + 1) t ≤ N := by
  have g := sp_g1 hL hk hN
  have l := mt_sum_le2 g.1 (d := k) (e := t) k0 (by omega) h0 (by omega) (by omega)
  rw [g.2] at l
  unfold sp_g at l
  rw [if_pos k1, if_neg (by omega), if_neg (by omega)] at l
  simp only [Int.mul_one] at l
  have := (hL.1 k k0 (by omega) (Or.inl k1)).2
  omega
theorem sp_merge {h : am_H} {S N U kept t k : Int} {nx : Int → Int} {a : Nat} (hL : sp_L h S N U nx a kept t) (hk : 0 ≤ kept ∧ kept ≤ t) (h0 : 0 ≤ t) (h1 : t < U) (k0 : 0 ≤ k) (k1 : k < kept) (he : h S k = nx (h S t)) : sp_L (am_u h (S + 1) k (h (S + 1) k + h (S + 1) t)) S N U nx a kept (t + 1) := by
  have b1 := hL.1 k k0 (by omega) (Or.inl k1)
  have b2 := hL.1 t h0 h1 (Or.inr (by omega))
  have eS : ∀ j, am_u h (S + 1) k (h (S + 1) k + h (S + 1) t) S j = h S j := fun j => am_u_n (by omega)
  refine ⟨fun j j0 j1 j2 => ?_, fun φ => ?_⟩
  · have := hL.1 j j0 j1 (by omega)
    rw [eS]
    refine ⟨this.1, ?_⟩
    rw [am_u_if]
    split
    · omega
    · exact this.2
  · rw [← hL.2 φ]
    have e1 := mt_sum_one (f := sp_g h S nx φ kept t) (g := fun p => if p = t then 0 else sp_g h S nx φ kept t p) (d := t) (n := U.toNat) h0 (by omega) (fun p _ _ hp => by simp [hp])
    have e2 := mt_sum_one (f := sp_g (am_u h (S + 1) k (h (S + 1) k + h (S + 1) t)) S nx φ kept (t + 1)) (g := fun p => if p = t then 0 else sp_g h S nx φ kept t p) (d := k) (n := U.toNat) k0 (by omega) (fun p _ _ hp => by
      show sp_g _ S nx φ kept (t + 1) p = if p = t then 0 else sp_g h S nx φ kept t p
      unfold sp_g
      rw [eS, am_u_if, if_neg hp]
      by_cases z : p = t
      · rw [if_pos z, if_neg (by omega), if_pos (by omega)]
      · rw [if_neg z]
        by_cases z1 : p < kept
        · rw [if_pos z1, if_pos z1]
        · rw [if_neg z1, if_neg z1]
          by_cases z2 : p < t
          · rw [if_pos z2, if_pos (by omega)]
          · rw [if_neg z2, if_neg (by omega)])
    rw [e1, e2]
    have f1 : sp_g h S nx φ kept t t = h (S + 1) t * φ (h S k) := by
      unfold sp_g
      rw [if_neg (by omega), if_neg (by omega), he]
    have f2 : sp_g h S nx φ kept t k = h (S + 1) k * φ (h S k) := by
      unfold sp_g
      rw [if_pos k1]
    have f3 : sp_g (am_u h (S + 1) k (h (S + 1) k + h (S + 1) t)) S nx φ kept (t + 1) k = h (S + 1) k * φ (h S k) + h (S + 1) t * φ (h S k) := by
      unfold sp_g
      rw [if_pos k1, eS, am_u_s, Int.add_mul]
    simp only [if_neg (show ¬ k = t by omega), if_true, f1, f2, f3]
    omega
theorem sp_new {h : am_H} {S N U kept t : Int} {nx : Int → Int} {a : Nat} (hL : sp_L h S N U nx a kept t) (hk : 0 ≤ kept ∧ kept ≤ t) (h0 : 0 ≤ t) (h1 : t < U) (hv : 0 ≤ nx (h S t) ∧ nx (h S t) < N) : sp_L (am_u (am_u (am_u h (S + 2) (nx (h S t)) kept) S kept (nx (h S t))) (S + 1) kept (h (S + 1) t)) S N U nx a (kept + 1) (t + 1) := by
  have b2 := hL.1 t h0 h1 (Or.inr (by omega))
  have eS : ∀ j, am_u (am_u (am_u h (S + 2) (nx (h S t)) kept) S kept (nx (h S t))) (S + 1) kept (h (S + 1) t) S j = if j = kept then nx (h S t) else h S j := fun j => by
    rw [am_u_n (by omega), am_u_if]
    split
    · rfl
    · rw [am_u_n (by omega)]
  have eW : ∀ j, am_u (am_u (am_u h (S + 2) (nx (h S t)) kept) S kept (nx (h S t))) (S + 1) kept (h (S + 1) t) (S + 1) j = if j = kept then h (S + 1) t else h (S + 1) j := fun j => by
    rw [am_u_if]
    split
    · rfl
    · rw [am_u_n (by omega), am_u_n (by omega)]
  refine ⟨fun j j0 j1 j2 => ?_, fun φ => ?_⟩
  · rw [eS, eW]
    by_cases z : j = kept
    · rw [if_pos z, if_pos z]; exact ⟨hv, b2.2⟩
    · rw [if_neg z, if_neg z]; exact hL.1 j j0 j1 (by omega)
  · rw [← hL.2 φ]
    have e1 := mt_sum_one (f := sp_g h S nx φ kept t) (g := fun p => if p = t then 0 else sp_g h S nx φ kept t p) (d := t) (n := U.toNat) h0 (by omega) (fun p _ _ hp => by simp [hp])
    have e2 := mt_sum_one (f := sp_g (am_u (am_u (am_u h (S + 2) (nx (h S t)) kept) S kept (nx (h S t))) (S + 1) kept (h (S + 1) t)) S nx φ (kept + 1) (t + 1)) (g := fun p => if p = t then 0 else sp_g h S nx φ kept t p) (d := kept) (n := U.toNat) hk.1 (by omega) (fun p _ _ hp => by
      show sp_g _ S nx φ (kept + 1) (t + 1) p = if p = t then 0 else sp_g h S nx φ kept t p
      unfold sp_g
      rw [eS, eW, if_neg hp, if_neg hp]
      by_cases z : p = t
      · rw [if_pos z, if_neg (by omega), if_pos (by omega)]
      · rw [if_neg z]
        by_cases z1 : p < kept
        · rw [if_pos z1, if_pos (by omega)]
        · rw [if_neg z1, if_neg (by omega)]
          by_cases z2 : p < t
          · rw [if_pos z2, if_pos (by omega)]
          · rw [if_neg z2, if_neg (by omega)])
    rw [e1, e2]
    have f1 : sp_g h S nx φ kept t t = h (S + 1) t * φ (nx (h S t)) := by
      unfold sp_g
      rw [if_neg (by omega), if_neg (by omega)]
    have f2 : (if kept = t then 0 else sp_g h S nx φ kept t kept) = 0 := by
      by_cases z : kept = t
      · rw [if_pos z]
      · rw [if_neg z]
        unfold sp_g
        rw [if_neg (by omega), if_pos (by omega)]
    have f3 : sp_g (am_u (am_u (am_u h (S + 2) (nx (h S t)) kept) S kept (nx (h S t))) (S + 1) kept (h (S + 1) t)) S nx φ (kept + 1) (t + 1) kept = h (S + 1) t * φ (nx (h S t)) := by
      unfold sp_g
      rw [if_pos (by omega), eS, eW, if_pos rfl, if_pos rfl]
    simp only [if_true, f1, f2, f3]
theorem sp_V_L {h : am_H} {S N U : Int} {nx : Int → Int} {a : Nat} (hV : sp_V h S N U nx a) : sp_L h S N U nx a 0 0 := by
  refine ⟨fun k k0 k1 _ => hV.2.1 k k0 k1, fun φ => ?_⟩
  have e := hV.2.2 (fun c => φ (nx c))
  rw [show (fun r => φ (gi nx (a + 1) r)) = fun r => φ (nx (gi nx a r)) from rfl, ← e]
  exact mt_sum_eq (fun p p0 p1 => by unfold sp_g; rw [if_neg (by omega), if_neg (by omega)])
theorem mt_sum_cut {f g : Int → Int} {m : Nat} : ∀ {n : Nat}, m ≤ n → (∀ p : Int, 0 ≤ p → p < m → f p = g p) → (∀ p : Int, m ≤ p → p < n → f p = 0) → mt_sum f n = mt_sum g m
  | 0, hm, _, _ => by
    rw [show m = 0 by omega]; rfl
  | n + 1, hm, h1, h2 => by
    by_cases z : m = n + 1
    · subst z
      exact mt_sum_eq h1
    · show mt_sum f n + f n = _
      rw [mt_sum_cut (n := n) (by omega) h1 (fun p p0 p1 => h2 p p0 (by omega)), h2 n (by omega) (by omega)]
      omega
theorem sp_L_V {h : am_H} {S N U kept : Int} {nx : Int → Int} {a : Nat} (hL : sp_L h S N U nx a kept U) (hk : 0 ≤ kept ∧ kept ≤ U) (hU : U ≤ N) : sp_V h S N kept nx (a + 1) := by
  refine ⟨by omega, fun k k0 k1 => hL.1 k k0 (by omega) (Or.inl k1), fun φ => ?_⟩
  rw [← hL.2 φ]
  exact (mt_sum_cut (m := kept.toNat) (n := U.toNat) (by omega) (fun p p0 p1 => by unfold sp_g; rw [if_pos (by omega)]) (fun p p0 p1 => by unfold sp_g; rw [if_neg (by omega), if_pos (by omega)])).symm
def sp_P (h : am_H) (S K : Int) : Prop := ∀ k, 0 ≤ k → k < K → 0 ≤ h (S + 2) k
theorem sp_P_u {h : am_H} {S K x k v : Int} (hP : sp_P h S K) (hv : x = S + 2 → 0 ≤ v) : sp_P (am_u h x k v) S K := fun j j0 j1 => by
  unfold am_u
  split
  · exact hv (by omega)
  · exact hP j j0 j1
theorem t_stepAll_l {ρ h : am_H} {A L S K P B : Int} {kd : Int → Int} {a : Nat} {Q : am_Q} (hQ : ar_Q ρ h A L P B kd) (hS : am_DS ρ S K) (hdis : A + 4 < S ∨ S + 2 < A) (hK : h 19 7 ≤ K) (hU : 0 ≤ h 29 3 ∧ h 29 3 ≤ h 19 7)
    (hq : ∀ h1 kept, am_fr [S, S + 1, S + 2] h h1 → sp_P h1 S K → sp_V h1 S (h 19 7) kept (nxt P B kd) (a + 1) → Q none ρ (am_u h1 29 3 kept)) :
    ∀ (n : Nat) (t kept : Int) (v w : Option am_V) (h1 : am_H), (h 29 3 - t).toNat < n → 0 ≤ t → t ≤ h 29 3 → 0 ≤ kept → kept ≤ t → am_fr [S, S + 1, S + 2] h h1 → sp_P h1 S K → sp_L h1 S (h 19 7) (h 29 3) (nxt P B kd) a kept t → am_WP mX5_stepAll 0 0 4 [some (am_R 29), some (am_R 19), some (am_I kept), some (am_I t), v, w] [] ρ h1 Q := by
  have hN := ar_QN hQ
  have hin := ar_Qin hQ
  obtain ⟨hC, hD, ⟨⟨c1, c2, c3, c4⟩, d1, _⟩, hP, hB⟩ := id hQ
  obtain ⟨k0, k1, k2, k3, k4, k5, ⟨e1, e2, e3, e4, e5⟩, ⟨l1, l2, l3, l4, l5⟩, hA, hL0, hL7⟩ := am_DAx hD
  obtain ⟨s0, s1, s2, s3, ⟨f1, f2, f3⟩, ⟨m1, m2, m3⟩, hS9, hK0, hK7⟩ := am_DSx hS
  have hn58 := hC.1
  intro n
  induction n with
  | zero => intro t kept v w h1 hk; omega
  | succ n ih =>
    intro t kept v w h1 hk h0 h9 q0 q1 hf hp hL
    have g0 : h1 29 3 = h 29 3 := hf 29 3 (by simp <;> omega)
    have g1 : h1 19 7 = h 19 7 := hf 19 7 (by simp <;> omega)
    have g2 : ∀ c, 0 ≤ c → c < h 19 7 → h1 A c = nxt P B kd c := fun c z0 z1 => by rw [hf A c (by simp <;> omega)]; exact d1 c z0 z1
    have K70 : t < h 29 3 → ∀ w, am_WP mX5_stepAll 0 0 70 [some (am_R 29), some (am_R 19), some (am_I kept), some (am_I t), some (am_I (nxt P B kd (h1 S t))), w] [] ρ h1 Q := by
      intro ht w
      have hr := hL.1 t h0 ht (Or.inr (Int.le_refl t))
      have hv := hin _ hr.1.1 hr.1.2
      have hw := sp_b1 hL ⟨q0, q1⟩ (by omega) h0 ht
      refine am_aload_n (pc' := 71) dX5_stepAll_70 rfl rfl rfl ?_
      refine am_getRk (ki := 2) (pc' := 74) (k := 2) (ci := 5) rfl dX5_stepAll_71 rfl fl_X5_18 (by first | assumption | exact ⟨by omega, by omega, rfl⟩) rfl (by assumption) (by omega) ?_
      refine am_iload (pc' := 76) dX5_stepAll_74 rfl rfl ?_
      refine am_iload_n (pc' := 77) dX5_stepAll_76 rfl rfl rfl ?_
      refine am_iastore (pc' := 78) dX5_stepAll_77 rfl (by first | assumption | exact ⟨by omega, by omega, rfl⟩) (by omega) (by omega) ?_
      refine am_aload_n (pc' := 79) dX5_stepAll_78 rfl rfl rfl ?_
      refine am_getRk (ki := 0) (pc' := 82) (k := 0) (ci := 5) rfl dX5_stepAll_79 rfl fl_X5_9 (by first | assumption | exact ⟨by omega, by omega, rfl⟩) rfl (by assumption) (by omega) ?_
      refine am_iload_n (pc' := 83) dX5_stepAll_82 rfl rfl rfl ?_
      refine am_iload (pc' := 85) dX5_stepAll_83 rfl rfl ?_
      refine am_iastore (pc' := 86) dX5_stepAll_85 rfl (by first | assumption | exact ⟨by omega, by omega, rfl⟩) (by omega) (by omega) ?_
      refine am_aload_n (pc' := 87) dX5_stepAll_86 rfl rfl rfl ?_
      refine am_getRk (ki := 1) (pc' := 90) (k := 1) (ci := 5) rfl dX5_stepAll_87 rfl fl_X5_15 (by first | assumption | exact ⟨by omega, by omega, rfl⟩) rfl (by assumption) (by omega) ?_
      refine am_iload_n (pc' := 91) dX5_stepAll_90 rfl rfl rfl ?_
      refine am_aload_n (pc' := 92) dX5_stepAll_91 rfl rfl rfl ?_
      refine am_getRk (ki := 1) (pc' := 95) (k := 1) (ci := 5) rfl dX5_stepAll_92 rfl fl_X5_15 (by first | assumption | exact ⟨by omega, by omega, rfl⟩) rfl (by assumption) (by omega) ?_
      refine am_iload_n (pc' := 96) dX5_stepAll_95 rfl rfl rfl ?_
      refine am_iaload (pc' := 97) dX5_stepAll_96 rfl (by first | assumption | exact ⟨by omega, by omega, rfl⟩) (by omega) (by omega) ?_
      rw [am_u_n (by omega), am_u_n (by omega)]
      refine am_iastore (pc' := 98) dX5_stepAll_97 rfl (by first | assumption | exact ⟨by omega, by omega, rfl⟩) (by omega) (by omega) ?_
      refine am_iinc (pc' := 101) (ls' := [_, _, _, _, _, _]) dX5_stepAll_98 rfl rfl ⟨by omega, by omega⟩ (Nat.le_of_ble_eq_true rfl) rfl rfl ?_
      refine am_iinc (pc' := 104) (ls' := [_, _, _, _, _, _]) dX5_stepAll_101 rfl rfl ⟨by omega, by omega⟩ (Nat.le_of_ble_eq_true rfl) rfl rfl ?_
      refine am_goto (pc' := 4) dX5_stepAll_104 rfl ?_
      exact ih _ _ _ _ _ (by omega) (by omega) (by omega) (by omega) (by omega) (am_fr_u (am_fr_u (am_fr_u hf (by simp <;> omega)) (by simp <;> omega)) (by simp <;> omega)) (sp_P_u (sp_P_u (sp_P_u hp (fun _ => q0)) (fun z => by omega)) (fun z => by omega)) (sp_new hL ⟨q0, q1⟩ h0 ht hv)
    refine am_iload_n (pc' := 5) dX5_stepAll_4 rfl rfl rfl ?_
    refine am_aload_n (pc' := 6) dX5_stepAll_5 rfl rfl rfl ?_
    refine am_getIk (ki := 3) (pc' := 9) (k := 3) (ci := 5) rfl dX5_stepAll_6 rfl fl_X5_21 (by first | assumption | exact ⟨by omega, by omega, rfl⟩) rfl ?_
    refine am_icmp_ge (pc' := 12) (tgt := 107) dX5_stepAll_9 rfl rfl (fun c_9 => ?_) (fun c_9 => ?_)
    · refine am_aload_n (pc' := 108) dX5_stepAll_107 rfl rfl rfl ?_
      refine am_iload_n (pc' := 109) dX5_stepAll_108 rfl rfl rfl ?_
      refine am_putIk (ki := 3) (pc' := 112) (k := 3) (ci := 5) rfl dX5_stepAll_109 rfl fl_X5_21 (by first | assumption | exact ⟨by omega, by omega, rfl⟩) rfl (fun _ _ _ e => by cases e; rfl) ?_
      refine am_retv dX5_stepAll_112 rfl ?_
      refine hq h1 kept hf hp (sp_L_V (U := h 29 3) ?_ (by omega) hU.2)
      rw [show h 29 3 = t by omega] at hL ⊢
      exact hL
    · refine am_aload_n (pc' := 13) dX5_stepAll_12 rfl rfl rfl ?_
      refine am_aload_n (pc' := 14) dX5_stepAll_13 rfl rfl rfl ?_
      refine am_getRk (ki := 0) (pc' := 17) (k := 0) (ci := 5) rfl dX5_stepAll_14 rfl fl_X5_9 (by first | assumption | exact ⟨by omega, by omega, rfl⟩) rfl (by assumption) (by omega) ?_
      refine am_iload_n (pc' := 18) dX5_stepAll_17 rfl rfl rfl ?_
      have ht : t < h 29 3 := by omega
      have hr := hL.1 t h0 ht (Or.inr (Int.le_refl t))
      have hv := hin _ hr.1.1 hr.1.2
      have hw := sp_b1 hL ⟨q0, q1⟩ (by omega) h0 ht
      refine am_iaload (pc' := 19) dX5_stepAll_18 rfl (by first | assumption | exact ⟨by omega, by omega, rfl⟩) (by omega) (by omega) ?_
      refine am_callVp (pc' := 22) (as := [_]) (ci := 0)  rfl dX5_stepAll_19 rfl ok_X0_nextOf ml_X5_40 im_X0_nextOf se_X0_nextOf rfl (Nat.le_of_ble_eq_true rfl) rfl (Nat.le_of_ble_eq_true rfl) (by first | assumption | exact ⟨by omega, by omega, rfl⟩) (t_nextOf (h := h1) hD (by omega) hr.1.1 (by omega)) ?_
      rw [g2 _ hr.1.1 hr.1.2]
      refine am_istore (pc' := 24) (ls' := [_, _, _, _, _, _]) dX5_stepAll_22 rfl (Nat.le_of_ble_eq_true rfl) rfl rfl ?_
      refine am_aload_n (pc' := 25) dX5_stepAll_24 rfl rfl rfl ?_
      refine am_getRk (ki := 2) (pc' := 28) (k := 2) (ci := 5) rfl dX5_stepAll_25 rfl fl_X5_18 (by first | assumption | exact ⟨by omega, by omega, rfl⟩) rfl (by assumption) (by omega) ?_
      refine am_iload (pc' := 30) dX5_stepAll_28 rfl rfl ?_
      have hp9 := hp _ hv.1 (by omega)
      refine am_iaload (pc' := 31) dX5_stepAll_30 rfl (by first | assumption | exact ⟨by omega, by omega, rfl⟩) (by omega) (by omega) ?_
      refine am_istore (pc' := 33) (ls' := [_, _, _, _, _, _]) dX5_stepAll_31 rfl (Nat.le_of_ble_eq_true rfl) rfl rfl ?_
      refine am_iload (pc' := 35) dX5_stepAll_33 rfl rfl ?_
      refine am_iload_n (pc' := 36) dX5_stepAll_35 rfl rfl rfl ?_
      refine am_icmp_ge (pc' := 39) (tgt := 70) dX5_stepAll_36 rfl rfl (fun c_36 => ?_) (fun c_36 => ?_)
      · exact K70 ht _
      · refine am_aload_n (pc' := 40) dX5_stepAll_39 rfl rfl rfl ?_
        refine am_getRk (ki := 0) (pc' := 43) (k := 0) (ci := 5) rfl dX5_stepAll_40 rfl fl_X5_9 (by first | assumption | exact ⟨by omega, by omega, rfl⟩) rfl (by assumption) (by omega) ?_
        refine am_iload (pc' := 45) dX5_stepAll_43 rfl rfl ?_
        refine am_iaload (pc' := 46) dX5_stepAll_45 rfl (by first | assumption | exact ⟨by omega, by omega, rfl⟩) (by omega) (by omega) ?_
        refine am_iload (pc' := 48) dX5_stepAll_46 rfl rfl ?_
        refine am_icmp_ne (pc' := 51) (tgt := 70) dX5_stepAll_48 rfl rfl (fun c_48 => ?_) (fun c_48 => ?_)
        · exact K70 ht _
        · refine am_aload_n (pc' := 52) dX5_stepAll_51 rfl rfl rfl ?_
          refine am_getRk (ki := 1) (pc' := 55) (k := 1) (ci := 5) rfl dX5_stepAll_52 rfl fl_X5_15 (by first | assumption | exact ⟨by omega, by omega, rfl⟩) rfl (by assumption) (by omega) ?_
          refine am_iload (pc' := 57) dX5_stepAll_55 rfl rfl ?_
          refine am_dup2 (pc' := 58) dX5_stepAll_57 rfl ?_
          refine am_iaload (pc' := 59) dX5_stepAll_58 rfl (by first | assumption | exact ⟨by omega, by omega, rfl⟩) (by omega) (by omega) ?_
          refine am_aload_n (pc' := 60) dX5_stepAll_59 rfl rfl rfl ?_
          refine am_getRk (ki := 1) (pc' := 63) (k := 1) (ci := 5) rfl dX5_stepAll_60 rfl fl_X5_15 (by first | assumption | exact ⟨by omega, by omega, rfl⟩) rfl (by assumption) (by omega) ?_
          refine am_iload_n (pc' := 64) dX5_stepAll_63 rfl rfl rfl ?_
          refine am_iaload (pc' := 65) dX5_stepAll_64 rfl (by first | assumption | exact ⟨by omega, by omega, rfl⟩) (by omega) (by omega) ?_
          have hb2 := sp_b2 hL ⟨q0, q1⟩ (by omega) h0 ht hp9 (by omega)
          refine am_iadd (pc' := 66) dX5_stepAll_65 rfl ⟨by omega, by omega⟩ ?_
          refine am_iastore (pc' := 67) dX5_stepAll_66 rfl (by first | assumption | exact ⟨by omega, by omega, rfl⟩) (by omega) (by omega) ?_
          refine am_goto (pc' := 101) dX5_stepAll_67 rfl ?_
          refine am_iinc (pc' := 104) (ls' := [_, _, _, _, _, _]) dX5_stepAll_101 rfl rfl ⟨by omega, by omega⟩ (Nat.le_of_ble_eq_true rfl) rfl rfl ?_
          refine am_goto (pc' := 4) dX5_stepAll_104 rfl ?_
          exact ih _ _ _ _ _ (by omega) (by omega) (by omega) (by omega) (by omega) (am_fr_u hf (by simp <;> omega)) (sp_P_u hp (fun z => by omega)) (sp_merge hL ⟨q0, q1⟩ h0 ht hp9 (by omega) (by assumption))
theorem t_stepAll {ρ h : am_H} {A L S K P B : Int} {kd : Int → Int} {a : Nat} (hQ : ar_Q ρ h A L P B kd) (hS : am_DS ρ S K) (hdis : A + 4 < S ∨ S + 2 < A) (hK : h 19 7 ≤ K) (hp : sp_P h S K) (hV : sp_V h S (h 19 7) (h 29 3) (nxt P B kd) a) :
    am_CT mX5_stepAll 0 0 [am_R 29, am_R 19] ρ h (fun v ρ' h' => v = none ∧ ρ' = ρ ∧ am_fr [29, S, S + 1, S + 2] h h' ∧ (∀ k, k ≠ 3 → h' 29 k = h 29 k) ∧ sp_P h' S K ∧ sp_V h' S (h 19 7) (h' 29 3) (nxt P B kd) (a + 1)) := by
  obtain ⟨s0, s1, s2, s3, ⟨f1, f2, f3⟩, ⟨m1, m2, m3⟩, hS9, hK0, hK7⟩ := am_DSx hS
  have key := t_stepAll_l (Q := fun v ρ' h' => v = none ∧ ρ' = ρ ∧ am_fr [29, S, S + 1, S + 2] h h' ∧ (∀ k, k ≠ 3 → h' 29 k = h 29 k) ∧ sp_P h' S K ∧ sp_V h' S (h 19 7) (h' 29 3) (nxt P B kd) (a + 1)) hQ hS hdis hK hV.1 (fun h1 kept g1 g2 g3 => by
    refine ⟨rfl, rfl, am_fr_u (am_fr_sub g1 (by intro x hx; simp at hx ⊢; omega)) (by simp <;> omega), fun k hk => ?_, sp_P_u g2 (fun z => by omega), ?_⟩
    · rw [am_u_n (by omega), g1 29 k (by simp <;> omega)]
    · rw [am_u_s]
      have e1 : am_u h1 29 3 kept S = h1 S := funext fun k => am_u_n (by omega)
      have e2 : am_u h1 29 3 kept (S + 1) = h1 (S + 1) := funext fun k => am_u_n (by omega)
      unfold sp_V at g3 ⊢
      rw [e1, e2]
      exact g3)
  refine am_ct (ls := [some (am_R 29), some (am_R 19), none, none, none, none]) ok_X5_stepAll rfl (fun _ => Nat.le_of_ble_eq_true rfl) (fun _ => rfl) (by intro v hv; simpa using hv) ?_
  refine am_iconst (pc' := 1) dX5_stepAll_0 rfl rfl ?_
  refine am_istore_n (pc' := 2) (ls' := [_, _, _, _, _, _]) dX5_stepAll_1 rfl rfl (Nat.le_of_ble_eq_true rfl) rfl rfl ?_
  refine am_iconst (pc' := 3) dX5_stepAll_2 rfl rfl ?_
  refine am_istore_n (pc' := 4) (ls' := [_, _, _, _, _, _]) dX5_stepAll_3 rfl rfl (Nat.le_of_ble_eq_true rfl) rfl rfl ?_
  exact key ((h 29 3).toNat + 1) 0 0 _ _ h (by omega) (by omega) hV.1.1 (by omega) (by omega) am_fr_refl hp (sp_V_L hV)
