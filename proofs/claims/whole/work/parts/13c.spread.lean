/-! Spread: cell 29; row 0, weight 1, place 2, unlike 3, age 4 -/
theorem am_DSx {ρ : am_H} {S K : Int} (h : am_DS ρ S K) : am_in ρ 29 5 ∧ am_in ρ S 8 ∧ am_in ρ (S + 1) 8 ∧ am_in ρ (S + 2) 8 ∧ (ρ 29 0 = S ∧ ρ 29 1 = S + 1 ∧ ρ 29 2 = S + 2) ∧ (ρ S (-1) = K ∧ ρ (S + 1) (-1) = K ∧ ρ (S + 2) (-1) = K) ∧ (S = 30 ∨ 58 ≤ S) ∧ 0 ≤ K ∧ K ≤ 7776 := by
  obtain ⟨h1, h2, h3, h4, h5, h6, h7⟩ := h
  exact ⟨h1, ⟨by omega, by omega, am_K8 (by omega)⟩, ⟨by omega, by omega, am_K8 (by omega)⟩, ⟨by omega, by omega, am_K8 (by omega)⟩, h4, h5, h2, h6, h7⟩
theorem mt_sum_le {f : Int → Int} {n : Nat} (hf : ∀ p : Int, 0 ≤ p → p < n → 0 ≤ f p) {d : Int} (h0 : 0 ≤ d) (h1 : d < n) : f d ≤ mt_sum f n := by
  have e := mt_sum_one (f := f) (g := fun p => if p = d then 0 else f p) (d := d) (n := n) h0 h1 (fun p _ _ hp => by simp [hp])
  have g := mt_sum_ge (f := fun p => if p = d then 0 else f p) (n := n) (fun p p0 p1 => by
    show 0 ≤ if p = d then 0 else f p
    split
    · omega
    · exact hf p p0 p1)
  simp at e
  omega
theorem mt_sum_le2 {f : Int → Int} {n : Nat} (hf : ∀ p : Int, 0 ≤ p → p < n → 0 ≤ f p) {d e : Int} (h0 : 0 ≤ d) (h1 : d < n) (e0 : 0 ≤ e) (e1 : e < n) (hne : e ≠ d) : f d + f e ≤ mt_sum f n := by
  have e9 := mt_sum_one (f := f) (g := fun p => if p = d then 0 else f p) (d := d) (n := n) h0 h1 (fun p _ _ hp => by simp [hp])
  have g := mt_sum_le (f := fun p => if p = d then 0 else f p) (n := n) (d := e) (fun p p0 p1 => by
    show 0 ≤ if p = d then 0 else f p
    split
    · omega
    · exact hf p p0 p1) e0 e1
  simp [hne] at e9 g
  omega
theorem mt_sum_1 : ∀ n : Nat, mt_sum (fun _ => 1) n = n
  | 0 => rfl
  | n + 1 => by
    show mt_sum (fun _ => 1) n + 1 = _
    rw [mt_sum_1 n]; omega
/-- how the rows after a steps are spread -/
def sp_V (h : am_H) (S N U : Int) (nx : Int → Int) (a : Nat) : Prop :=
  (0 ≤ U ∧ U ≤ N) ∧ (∀ k, 0 ≤ k → k < U → (0 ≤ h S k ∧ h S k < N) ∧ 0 ≤ h (S + 1) k) ∧ ∀ φ : Int → Int, mt_sum (fun k => h (S + 1) k * φ (h S k)) U.toNat = mt_sum (fun r => φ (gi nx a r)) N.toNat
def sp_g (h : am_H) (S : Int) (nx φ : Int → Int) (kept at' : Int) : Int → Int := fun k => if k < kept then h (S + 1) k * φ (h S k) else if k < at' then 0 else h (S + 1) k * φ (nx (h S k))
def sp_L (h : am_H) (S N U : Int) (nx : Int → Int) (a : Nat) (kept at' : Int) : Prop :=
  (∀ k, 0 ≤ k → k < U → (k < kept ∨ at' ≤ k) → (0 ≤ h S k ∧ h S k < N) ∧ 0 ≤ h (S + 1) k) ∧ ∀ φ : Int → Int, mt_sum (sp_g h S nx φ kept at') U.toNat = mt_sum (fun r => φ (gi nx (a + 1) r)) N.toNat
theorem sp_g1 {h : am_H} {S N U kept t : Int} {nx : Int → Int} {a : Nat} (hL : sp_L h S N U nx a kept t) (hk : 0 ≤ kept ∧ kept ≤ t) (hN : 0 ≤ N) : (∀ p : Int, 0 ≤ p → p < U.toNat → 0 ≤ sp_g h S nx (fun _ => 1) kept t p) ∧ mt_sum (sp_g h S nx (fun _ => 1) kept t) U.toNat = N := by
  refine ⟨fun p p0 p1 => ?_, ?_⟩
  · unfold sp_g
    split
    · have := (hL.1 p p0 (by omega) (Or.inl (by omega))).2
      simp only [Int.mul_one]; exact this
    · split
      · omega
      · have := (hL.1 p p0 (by omega) (Or.inr (by omega))).2
        simp only [Int.mul_one]; exact this
  · rw [hL.2, mt_sum_1]; omega
theorem sp_b1 {h : am_H} {S N U kept t : Int} {nx : Int → Int} {a : Nat} (hL : sp_L h S N U nx a kept t) (hk : 0 ≤ kept ∧ kept ≤ t) (hN : 0 ≤ N) (h0 : 0 ≤ t) (h1 : t < U) : 0 ≤ h (S + 1) t ∧ h (S + 1) t ≤ N := by
  have g := sp_g1 hL hk hN
  have l := mt_sum_le g.1 h0 (by omega)
  rw [g.2] at l
  unfold sp_g at l
  rw [if_neg (by omega), if_neg (by omega)] at l
  simp only [Int.mul_one] at l
  have := (hL.1 t h0 h1 (Or.inr (by omega))).2
  omega
theorem sp_b2 {h : am_H} {S N U kept t k : Int} {nx : Int → Int} {a : Nat} (hL : sp_L h S N U nx a kept t) (hk : 0 ≤ kept ∧ kept ≤ t) (hN : 0 ≤ N) (h0 : 0 ≤ t) (h1 : t < U) (k0 : 0 ≤ k) (k1 : k < kept) : 0 ≤ h (S + 1) k ∧ h (S + 1) k + h (S + 1) t ≤ N := by
  have g := sp_g1 hL hk hN
  have l := mt_sum_le2 g.1 (d := k) (e := t) k0 (by omega) h0 (by omega) (by omega)
  rw [g.2] at l
  unfold sp_g at l
  rw [if_pos k1, if_neg (by omega), if_neg (by omega)] at l
  simp only [Int.mul_one] at l
  have := (hL.1 k k0 (by omega) (Or.inl k1)).2
  omega
theorem sp_merge {h : am_H} {S N U kept t k : Int} {nx : Int → Int} {a : Nat} (hL : sp_L h S N U nx a kept t) (hk : 0 ≤ kept ∧ kept ≤ t) (h0 : 0 ≤ t) (h1 : t < U) (k0 : 0 ≤ k) (k1 : k < kept) (he : h S k = nx (h S t)) : sp_L (am_u h (S + 1) k (h (S + 1) k + h (S + 1) t)) S N U nx a kept (t + 1) := by
  have b1 := hL.1 k k0 (by omega) (Or.inl k1)
  have b2 := hL.1 t h0 h1 (Or.inr (by omega))
  have eS : ∀ j, am_u h (S + 1) k (h (S + 1) k + h (S + 1) t) S j = h S j := fun j => am_u_n (by omega)
  refine ⟨fun j j0 j1 j2 => ?_, fun φ => ?_⟩
  · have := hL.1 j j0 j1 (by omega)
    rw [eS]
    refine ⟨this.1, ?_⟩
    rw [am_u_if]
    split
    · omega
    · exact this.2
  · rw [← hL.2 φ]
    have e1 := mt_sum_one (f := sp_g h S nx φ kept t) (g := fun p => if p = t then 0 else sp_g h S nx φ kept t p) (d := t) (n := U.toNat) h0 (by omega) (fun p _ _ hp => by simp [hp])
    have e2 := mt_sum_one (f := sp_g (am_u h (S + 1) k (h (S + 1) k + h (S + 1) t)) S nx φ kept (t + 1)) (g := fun p => if p = t then 0 else sp_g h S nx φ kept t p) (d := k) (n := U.toNat) k0 (by omega) (fun p _ _ hp => by
      show sp_g _ S nx φ kept (t + 1) p = if p = t then 0 else sp_g h S nx φ kept t p
      unfold sp_g
      rw [eS, am_u_if, if_neg hp]
      by_cases z : p = t
      · rw [if_pos z, if_neg (by omega), if_pos (by omega)]
      · rw [if_neg z]
        by_cases z1 : p < kept
        · rw [if_pos z1, if_pos z1]
        · rw [if_neg z1, if_neg z1]
          by_cases z2 : p < t
          · rw [if_pos z2, if_pos (by omega)]
          · rw [if_neg z2, if_neg (by omega)])
    rw [e1, e2]
    have f1 : sp_g h S nx φ kept t t = h (S + 1) t * φ (h S k) := by
      unfold sp_g
      rw [if_neg (by omega), if_neg (by omega), he]
    have f2 : sp_g h S nx φ kept t k = h (S + 1) k * φ (h S k) := by
      unfold sp_g
      rw [if_pos k1]
    have f3 : sp_g (am_u h (S + 1) k (h (S + 1) k + h (S + 1) t)) S nx φ kept (t + 1) k = h (S + 1) k * φ (h S k) + h (S + 1) t * φ (h S k) := by
      unfold sp_g
      rw [if_pos k1, eS, am_u_s, Int.add_mul]
    simp only [if_neg (show ¬ k = t by omega), if_true, f1, f2, f3]
    omega
theorem sp_new {h : am_H} {S N U kept t : Int} {nx : Int → Int} {a : Nat} (hL : sp_L h S N U nx a kept t) (hk : 0 ≤ kept ∧ kept ≤ t) (h0 : 0 ≤ t) (h1 : t < U) (hv : 0 ≤ nx (h S t) ∧ nx (h S t) < N) : sp_L (am_u (am_u (am_u h (S + 2) (nx (h S t)) kept) S kept (nx (h S t))) (S + 1) kept (h (S + 1) t)) S N U nx a (kept + 1) (t + 1) := by
  have b2 := hL.1 t h0 h1 (Or.inr (by omega))
  have eS : ∀ j, am_u (am_u (am_u h (S + 2) (nx (h S t)) kept) S kept (nx (h S t))) (S + 1) kept (h (S + 1) t) S j = if j = kept then nx (h S t) else h S j := fun j => by
    rw [am_u_n (by omega), am_u_if]
    split
    · rfl
    · rw [am_u_n (by omega)]
  have eW : ∀ j, am_u (am_u (am_u h (S + 2) (nx (h S t)) kept) S kept (nx (h S t))) (S + 1) kept (h (S + 1) t) (S + 1) j = if j = kept then h (S + 1) t else h (S + 1) j := fun j => by
    rw [am_u_if]
    split
    · rfl
    · rw [am_u_n (by omega), am_u_n (by omega)]
  refine ⟨fun j j0 j1 j2 => ?_, fun φ => ?_⟩
  · rw [eS, eW]
    by_cases z : j = kept
    · rw [if_pos z, if_pos z]; exact ⟨hv, b2.2⟩
    · rw [if_neg z, if_neg z]; exact hL.1 j j0 j1 (by omega)
  · rw [← hL.2 φ]
    have e1 := mt_sum_one (f := sp_g h S nx φ kept t) (g := fun p => if p = t then 0 else sp_g h S nx φ kept t p) (d := t) (n := U.toNat) h0 (by omega) (fun p _ _ hp => by simp [hp])
    have e2 := mt_sum_one (f := sp_g (am_u (am_u (am_u h (S + 2) (nx (h S t)) kept) S kept (nx (h S t))) (S + 1) kept (h (S + 1) t)) S nx φ (kept + 1) (t + 1)) (g := fun p => if p = t then 0 else sp_g h S nx φ kept t p) (d := kept) (n := U.toNat) hk.1 (by omega) (fun p _ _ hp => by
      show sp_g _ S nx φ (kept + 1) (t + 1) p = if p = t then 0 else sp_g h S nx φ kept t p
      unfold sp_g
      rw [eS, eW, if_neg hp, if_neg hp]
      by_cases z : p = t
      · rw [if_pos z, if_neg (by omega), if_pos (by omega)]
      · rw [if_neg z]
        by_cases z1 : p < kept
        · rw [if_pos z1, if_pos (by omega)]
        · rw [if_neg z1, if_neg (by omega)]
          by_cases z2 : p < t
          · rw [if_pos z2, if_pos (by omega)]
          · rw [if_neg z2, if_neg (by omega)])
    rw [e1, e2]
    have f1 : sp_g h S nx φ kept t t = h (S + 1) t * φ (nx (h S t)) := by
      unfold sp_g
      rw [if_neg (by omega), if_neg (by omega)]
    have f2 : (if kept = t then 0 else sp_g h S nx φ kept t kept) = 0 := by
      by_cases z : kept = t
      · rw [if_pos z]
      · rw [if_neg z]
        unfold sp_g
        rw [if_neg (by omega), if_pos (by omega)]
    have f3 : sp_g (am_u (am_u (am_u h (S + 2) (nx (h S t)) kept) S kept (nx (h S t))) (S + 1) kept (h (S + 1) t)) S nx φ (kept + 1) (t + 1) kept = h (S + 1) t * φ (nx (h S t)) := by
      unfold sp_g
      rw [if_pos (by omega), eS, eW, if_pos rfl, if_pos rfl]
    simp only [if_true, f1, f2, f3]
theorem sp_V_L {h : am_H} {S N U : Int} {nx : Int → Int} {a : Nat} (hV : sp_V h S N U nx a) : sp_L h S N U nx a 0 0 := by
  refine ⟨fun k k0 k1 _ => hV.2.1 k k0 k1, fun φ => ?_⟩
  have e := hV.2.2 (fun c => φ (nx c))
  rw [show (fun r => φ (gi nx (a + 1) r)) = fun r => φ (nx (gi nx a r)) from rfl, ← e]
  exact mt_sum_eq (fun p p0 p1 => by unfold sp_g; rw [if_neg (by omega), if_neg (by omega)])
theorem mt_sum_cut {f g : Int → Int} {m : Nat} : ∀ {n : Nat}, m ≤ n → (∀ p : Int, 0 ≤ p → p < m → f p = g p) → (∀ p : Int, m ≤ p → p < n → f p = 0) → mt_sum f n = mt_sum g m
  | 0, hm, _, _ => by
    rw [show m = 0 by omega]; rfl
  | n + 1, hm, h1, h2 => by
    by_cases z : m = n + 1
    · subst z
      exact mt_sum_eq h1
    · show mt_sum f n + f n = _
      rw [mt_sum_cut (n := n) (by omega) h1 (fun p p0 p1 => h2 p p0 (by omega)), h2 n (by omega) (by omega)]
      omega
theorem sp_L_V {h : am_H} {S N U kept : Int} {nx : Int → Int} {a : Nat} (hL : sp_L h S N U nx a kept U) (hk : 0 ≤ kept ∧ kept ≤ U) (hU : U ≤ N) : sp_V h S N kept nx (a + 1) := by
  refine ⟨by omega, fun k k0 k1 => hL.1 k k0 (by omega) (Or.inl k1), fun φ => ?_⟩
  rw [← hL.2 φ]
  exact (mt_sum_cut (m := kept.toNat) (n := U.toNat) (by omega) (fun p p0 p1 => by unfold sp_g; rw [if_pos (by omega)]) (fun p p0 p1 => by unfold sp_g; rw [if_neg (by omega), if_pos (by omega)])).symm
def sp_P (h : am_H) (S K : Int) : Prop := ∀ k, 0 ≤ k → k < K → 0 ≤ h (S + 2) k
theorem sp_P_u {h : am_H} {S K x k v : Int} (hP : sp_P h S K) (hv : x = S + 2 → 0 ≤ v) : sp_P (am_u h x k v) S K := fun j j0 j1 => by
  unfold am_u
  split
  · exact hv (by omega)
  · exact hP j j0 j1
theorem t_whereKept {ρ h : am_H} {S K c kept : Int} (hS : am_DS ρ S K) (h0 : 0 ≤ c) (h1 : c < K) (hk : kept ≤ K) : am_CT mX5_whereKept 0 0 [am_R 29, am_I c, am_I kept] ρ h (fun v ρ' h' => ρ' = ρ ∧ h' = h ∧ (v = some (am_I (-9)) ∨ ∃ k, v = some (am_I k) ∧ 0 ≤ k ∧ k < kept ∧ h S k = c)) := by
  obtain ⟨s0, s1, s2, s3, ⟨f1, f2, f3⟩, ⟨m1, m2, m3⟩, hS9, hK0, hK7⟩ := am_DSx hS
  refine am_ct (ls := [some (am_R 29), some (am_I c), some (am_I kept), none]) ok_X5_whereKept rfl (fun _ => Nat.le_of_ble_eq_true rfl) (fun _ => rfl) (by intro v hv; simpa using hv) ?_
  refine am_iload_n (pc' := 1) dX5_whereKept_0 rfl rfl rfl ?_
  refine am_aload_n (pc' := 2) dX5_whereKept_1 rfl rfl rfl ?_
  refine am_getRk (ki := 2) (pc' := 5) (k := 2) (ci := 5) rfl dX5_whereKept_2 rfl fl_X5_18 (by first | assumption | exact ⟨by omega, by omega, rfl⟩) rfl (by assumption) (by omega) ?_
  refine am_alen (pc' := 6) dX5_whereKept_5 rfl (by first | assumption | exact ⟨by omega, by omega, rfl⟩) (by assumption) ?_
  refine am_icmp_ge (pc' := 9) (tgt := 18) dX5_whereKept_6 rfl rfl (fun c_6 => ?_) (fun c_6 => ?_)
  · exfalso; omega
  · refine am_aload_n (pc' := 10) dX5_whereKept_9 rfl rfl rfl ?_
    refine am_getRk (ki := 2) (pc' := 13) (k := 2) (ci := 5) rfl dX5_whereKept_10 rfl fl_X5_18 (by first | assumption | exact ⟨by omega, by omega, rfl⟩) rfl (by assumption) (by omega) ?_
    refine am_iload_n (pc' := 14) dX5_whereKept_13 rfl rfl rfl ?_
    refine am_iaload (pc' := 15) dX5_whereKept_14 rfl (by first | assumption | exact ⟨by omega, by omega, rfl⟩) (by omega) (by omega) ?_
    refine am_goto (pc' := 20) dX5_whereKept_15 rfl ?_
    refine am_istore_n (pc' := 21) (ls' := [_, _, _, _]) dX5_whereKept_20 rfl rfl (Nat.le_of_ble_eq_true rfl) rfl rfl ?_
    refine am_iload_n (pc' := 22) dX5_whereKept_21 rfl rfl rfl ?_
    refine am_if_lt (pc' := 25) (tgt := 44) dX5_whereKept_22 rfl rfl (fun c_22 => ?_) (fun c_22 => ?_)
    · refine am_bipush (pc' := 46) dX5_whereKept_44 rfl rfl (by decide) ?_
      refine am_reti dX5_whereKept_46 rfl ?_
      first | exact ⟨rfl, rfl, Or.inl rfl⟩ | exact ⟨rfl, rfl, Or.inr ⟨_, rfl, by omega, by omega, by omega⟩⟩
    · refine am_iload_n (pc' := 26) dX5_whereKept_25 rfl rfl rfl ?_
      refine am_iload_n (pc' := 27) dX5_whereKept_26 rfl rfl rfl ?_
      refine am_icmp_ge (pc' := 30) (tgt := 44) dX5_whereKept_27 rfl rfl (fun c_27 => ?_) (fun c_27 => ?_)
      · refine am_bipush (pc' := 46) dX5_whereKept_44 rfl rfl (by decide) ?_
        refine am_reti dX5_whereKept_46 rfl ?_
        first | exact ⟨rfl, rfl, Or.inl rfl⟩ | exact ⟨rfl, rfl, Or.inr ⟨_, rfl, by omega, by omega, by omega⟩⟩
      · refine am_aload_n (pc' := 31) dX5_whereKept_30 rfl rfl rfl ?_
        refine am_getRk (ki := 0) (pc' := 34) (k := 0) (ci := 5) rfl dX5_whereKept_31 rfl fl_X5_9 (by first | assumption | exact ⟨by omega, by omega, rfl⟩) rfl (by assumption) (by omega) ?_
        refine am_iload_n (pc' := 35) dX5_whereKept_34 rfl rfl rfl ?_
        refine am_iaload (pc' := 36) dX5_whereKept_35 rfl (by first | assumption | exact ⟨by omega, by omega, rfl⟩) (by omega) (by omega) ?_
        refine am_iload_n (pc' := 37) dX5_whereKept_36 rfl rfl rfl ?_
        refine am_icmp_ne (pc' := 40) (tgt := 44) dX5_whereKept_37 rfl rfl (fun c_37 => ?_) (fun c_37 => ?_)
        · refine am_bipush (pc' := 46) dX5_whereKept_44 rfl rfl (by decide) ?_
          refine am_reti dX5_whereKept_46 rfl ?_
          first | exact ⟨rfl, rfl, Or.inl rfl⟩ | exact ⟨rfl, rfl, Or.inr ⟨_, rfl, by omega, by omega, by omega⟩⟩
        · refine am_iload_n (pc' := 41) dX5_whereKept_40 rfl rfl rfl ?_
          refine am_goto (pc' := 46) dX5_whereKept_41 rfl ?_
          refine am_reti dX5_whereKept_46 rfl ?_
          first | exact ⟨rfl, rfl, Or.inl rfl⟩ | exact ⟨rfl, rfl, Or.inr ⟨_, rfl, by omega, by omega, by omega⟩⟩
theorem t_stepAll_l {ρ h : am_H} {A L S K P B : Int} {kd : Int → Int} {a : Nat} {Q : am_Q} (hQ : ar_Q ρ h A L P B kd) (hS : am_DS ρ S K) (hdis : A + 4 < S ∨ S + 2 < A) (hK : h 19 7 ≤ K) (hU : 0 ≤ h 29 3 ∧ h 29 3 ≤ h 19 7)
    (hq : ∀ h1 kept, am_fr [S, S + 1, S + 2] h h1 → sp_P h1 S K → sp_V h1 S (h 19 7) kept (nxt P B kd) (a + 1) → Q none ρ (am_u h1 29 3 kept)) :
    ∀ (n : Nat) (t kept : Int) (v w : Option am_V) (h1 : am_H), (h 29 3 - t).toNat < n → 0 ≤ t → t ≤ h 29 3 → 0 ≤ kept → kept ≤ t → am_fr [S, S + 1, S + 2] h h1 → sp_P h1 S K → sp_L h1 S (h 19 7) (h 29 3) (nxt P B kd) a kept t → am_WP mX5_stepAll 0 0 4 [some (am_R 29), some (am_R 19), some (am_I kept), some (am_I t), v, w] [] ρ h1 Q := by
  have hN := ar_QN hQ
  have hin := ar_Qin hQ
  obtain ⟨hC, hD, ⟨⟨c1, c2, c3, c4⟩, d1, _⟩, hP, hB⟩ := id hQ
  obtain ⟨k0, k1, k2, k3, k4, k5, ⟨e1, e2, e3, e4, e5⟩, ⟨l1, l2, l3, l4, l5⟩, hA, hL0, hL7⟩ := am_DAx hD
  obtain ⟨s0, s1, s2, s3, ⟨f1, f2, f3⟩, ⟨m1, m2, m3⟩, hS9, hK0, hK7⟩ := am_DSx hS
  have hn58 := hC.1
  intro n
  induction n with
  | zero => intro t kept v w h1 hk; omega
  | succ n ih =>
    intro t kept v w h1 hk h0 h9 q0 q1 hf hp hL
    have g0 : h1 29 3 = h 29 3 := hf 29 3 (by simp <;> omega)
    have g1 : h1 19 7 = h 19 7 := hf 19 7 (by simp <;> omega)
    have g2 : ∀ c, 0 ≤ c → c < h 19 7 → h1 A c = nxt P B kd c := fun c z0 z1 => by rw [hf A c (by simp <;> omega)]; exact d1 c z0 z1
    have K59 : t < h 29 3 → ∀ w, am_WP mX5_stepAll 0 0 59 [some (am_R 29), some (am_R 19), some (am_I kept), some (am_I t), some (am_I (nxt P B kd (h1 S t))), w] [] ρ h1 Q := by
      intro ht w
      have hr := hL.1 t h0 ht (Or.inr (Int.le_refl t))
      have hv := hin _ hr.1.1 hr.1.2
      have hw := sp_b1 hL ⟨q0, q1⟩ (by omega) h0 ht
      refine am_iload (pc' := 61) dX5_stepAll_59 rfl rfl ?_
      refine am_aload_n (pc' := 62) dX5_stepAll_61 rfl rfl rfl ?_
      refine am_getRk (ki := 2) (pc' := 65) (k := 2) (ci := 5) rfl dX5_stepAll_62 rfl fl_X5_18 (by first | assumption | exact ⟨by omega, by omega, rfl⟩) rfl (by assumption) (by omega) ?_
      refine am_alen (pc' := 66) dX5_stepAll_65 rfl (by first | assumption | exact ⟨by omega, by omega, rfl⟩) (by assumption) ?_
      refine am_icmp_ge (pc' := 69) (tgt := 100) dX5_stepAll_66 rfl rfl (fun c_66 => ?_) (fun c_66 => ?_)
      · exfalso; omega
      · refine am_aload_n (pc' := 70) dX5_stepAll_69 rfl rfl rfl ?_
        refine am_getRk (ki := 2) (pc' := 73) (k := 2) (ci := 5) rfl dX5_stepAll_70 rfl fl_X5_18 (by first | assumption | exact ⟨by omega, by omega, rfl⟩) rfl (by assumption) (by omega) ?_
        refine am_iload (pc' := 75) dX5_stepAll_73 rfl rfl ?_
        refine am_iload_n (pc' := 76) dX5_stepAll_75 rfl rfl rfl ?_
        refine am_iastore (pc' := 77) dX5_stepAll_76 rfl (by first | assumption | exact ⟨by omega, by omega, rfl⟩) (by omega) (by omega) ?_
        refine am_aload_n (pc' := 78) dX5_stepAll_77 rfl rfl rfl ?_
        refine am_getRk (ki := 0) (pc' := 81) (k := 0) (ci := 5) rfl dX5_stepAll_78 rfl fl_X5_9 (by first | assumption | exact ⟨by omega, by omega, rfl⟩) rfl (by assumption) (by omega) ?_
        refine am_iload_n (pc' := 82) dX5_stepAll_81 rfl rfl rfl ?_
        refine am_iload (pc' := 84) dX5_stepAll_82 rfl rfl ?_
        refine am_iastore (pc' := 85) dX5_stepAll_84 rfl (by first | assumption | exact ⟨by omega, by omega, rfl⟩) (by omega) (by omega) ?_
        refine am_aload_n (pc' := 86) dX5_stepAll_85 rfl rfl rfl ?_
        refine am_getRk (ki := 1) (pc' := 89) (k := 1) (ci := 5) rfl dX5_stepAll_86 rfl fl_X5_15 (by first | assumption | exact ⟨by omega, by omega, rfl⟩) rfl (by assumption) (by omega) ?_
        refine am_iload_n (pc' := 90) dX5_stepAll_89 rfl rfl rfl ?_
        refine am_aload_n (pc' := 91) dX5_stepAll_90 rfl rfl rfl ?_
        refine am_getRk (ki := 1) (pc' := 94) (k := 1) (ci := 5) rfl dX5_stepAll_91 rfl fl_X5_15 (by first | assumption | exact ⟨by omega, by omega, rfl⟩) rfl (by assumption) (by omega) ?_
        refine am_iload_n (pc' := 95) dX5_stepAll_94 rfl rfl rfl ?_
        refine am_iaload (pc' := 96) dX5_stepAll_95 rfl (by first | assumption | exact ⟨by omega, by omega, rfl⟩) (by omega) (by omega) ?_
        rw [am_u_n (by omega), am_u_n (by omega)]
        refine am_iastore (pc' := 97) dX5_stepAll_96 rfl (by first | assumption | exact ⟨by omega, by omega, rfl⟩) (by omega) (by omega) ?_
        refine am_iinc (pc' := 100) (ls' := [_, _, _, _, _, _]) dX5_stepAll_97 rfl rfl ⟨by omega, by omega⟩ (Nat.le_of_ble_eq_true rfl) rfl rfl ?_
        refine am_iinc (pc' := 103) (ls' := [_, _, _, _, _, _]) dX5_stepAll_100 rfl rfl ⟨by omega, by omega⟩ (Nat.le_of_ble_eq_true rfl) rfl rfl ?_
        refine am_goto (pc' := 4) dX5_stepAll_103 rfl ?_
        exact ih _ _ _ _ _ (by omega) (by omega) (by omega) (by omega) (by omega) (am_fr_u (am_fr_u (am_fr_u hf (by simp <;> omega)) (by simp <;> omega)) (by simp <;> omega)) (sp_P_u (sp_P_u (sp_P_u hp (fun _ => q0)) (fun z => by omega)) (fun z => by omega)) (sp_new hL ⟨q0, q1⟩ h0 ht hv)
    have K40 : ∀ kn, t < h 29 3 → 0 ≤ kn → kn < kept → h1 S kn = nxt P B kd (h1 S t) → am_WP mX5_stepAll 0 0 40 [some (am_R 29), some (am_R 19), some (am_I kept), some (am_I t), some (am_I (nxt P B kd (h1 S t))), some (am_I kn)] [] ρ h1 Q := by
      intro kn ht kn0 kn1 kn2
      have hw := sp_b1 hL ⟨q0, q1⟩ (by omega) h0 ht
      have hb2 := sp_b2 hL ⟨q0, q1⟩ (by omega) h0 ht kn0 kn1
      refine am_aload_n (pc' := 41) dX5_stepAll_40 rfl rfl rfl ?_
      refine am_getRk (ki := 1) (pc' := 44) (k := 1) (ci := 5) rfl dX5_stepAll_41 rfl fl_X5_15 (by first | assumption | exact ⟨by omega, by omega, rfl⟩) rfl (by assumption) (by omega) ?_
      refine am_iload (pc' := 46) dX5_stepAll_44 rfl rfl ?_
      refine am_dup2 (pc' := 47) dX5_stepAll_46 rfl ?_
      refine am_iaload (pc' := 48) dX5_stepAll_47 rfl (by first | assumption | exact ⟨by omega, by omega, rfl⟩) (by omega) (by omega) ?_
      refine am_aload_n (pc' := 49) dX5_stepAll_48 rfl rfl rfl ?_
      refine am_getRk (ki := 1) (pc' := 52) (k := 1) (ci := 5) rfl dX5_stepAll_49 rfl fl_X5_15 (by first | assumption | exact ⟨by omega, by omega, rfl⟩) rfl (by assumption) (by omega) ?_
      refine am_iload_n (pc' := 53) dX5_stepAll_52 rfl rfl rfl ?_
      refine am_iaload (pc' := 54) dX5_stepAll_53 rfl (by first | assumption | exact ⟨by omega, by omega, rfl⟩) (by omega) (by omega) ?_
      refine am_iadd (pc' := 55) dX5_stepAll_54 rfl ⟨by omega, by omega⟩ ?_
      refine am_iastore (pc' := 56) dX5_stepAll_55 rfl (by first | assumption | exact ⟨by omega, by omega, rfl⟩) (by omega) (by omega) ?_
      refine am_goto (pc' := 100) dX5_stepAll_56 rfl ?_
      refine am_iinc (pc' := 103) (ls' := [_, _, _, _, _, _]) dX5_stepAll_100 rfl rfl ⟨by omega, by omega⟩ (Nat.le_of_ble_eq_true rfl) rfl rfl ?_
      refine am_goto (pc' := 4) dX5_stepAll_103 rfl ?_
      exact ih _ _ _ _ _ (by omega) (by omega) (by omega) (by omega) (by omega) (am_fr_u hf (by simp <;> omega)) (sp_P_u hp (fun z => by omega)) (sp_merge hL ⟨q0, q1⟩ h0 ht kn0 kn1 kn2)
    refine am_iload_n (pc' := 5) dX5_stepAll_4 rfl rfl rfl ?_
    refine am_aload_n (pc' := 6) dX5_stepAll_5 rfl rfl rfl ?_
    refine am_getIk (ki := 3) (pc' := 9) (k := 3) (ci := 5) rfl dX5_stepAll_6 rfl fl_X5_21 (by first | assumption | exact ⟨by omega, by omega, rfl⟩) rfl ?_
    refine am_icmp_ge (pc' := 12) (tgt := 106) dX5_stepAll_9 rfl rfl (fun c_9 => ?_) (fun c_9 => ?_)
    · refine am_aload_n (pc' := 107) dX5_stepAll_106 rfl rfl rfl ?_
      refine am_iload_n (pc' := 108) dX5_stepAll_107 rfl rfl rfl ?_
      refine am_putIk (ki := 3) (pc' := 111) (k := 3) (ci := 5) rfl dX5_stepAll_108 rfl fl_X5_21 (by first | assumption | exact ⟨by omega, by omega, rfl⟩) rfl (fun _ _ _ e => by cases e; rfl) ?_
      refine am_retv dX5_stepAll_111 rfl ?_
      refine hq h1 kept hf hp (sp_L_V (U := h 29 3) ?_ (by omega) hU.2)
      rw [show h 29 3 = t by omega] at hL ⊢
      exact hL
    · refine am_aload_n (pc' := 13) dX5_stepAll_12 rfl rfl rfl ?_
      refine am_aload_n (pc' := 14) dX5_stepAll_13 rfl rfl rfl ?_
      refine am_getRk (ki := 0) (pc' := 17) (k := 0) (ci := 5) rfl dX5_stepAll_14 rfl fl_X5_9 (by first | assumption | exact ⟨by omega, by omega, rfl⟩) rfl (by assumption) (by omega) ?_
      refine am_iload_n (pc' := 18) dX5_stepAll_17 rfl rfl rfl ?_
      have ht : t < h 29 3 := by omega
      have hr := hL.1 t h0 ht (Or.inr (Int.le_refl t))
      have hv := hin _ hr.1.1 hr.1.2
      refine am_iaload (pc' := 19) dX5_stepAll_18 rfl (by first | assumption | exact ⟨by omega, by omega, rfl⟩) (by omega) (by omega) ?_
      refine am_callVp (pc' := 22) (as := [_]) (ci := 0)  rfl dX5_stepAll_19 rfl ok_X0_nextOf ml_X5_40 im_X0_nextOf se_X0_nextOf rfl (Nat.le_of_ble_eq_true rfl) rfl (Nat.le_of_ble_eq_true rfl) (by first | assumption | exact ⟨by omega, by omega, rfl⟩) (t_nextOf (h := h1) hD (by omega) hr.1.1 (by omega)) ?_
      rw [g2 _ hr.1.1 hr.1.2]
      refine am_istore (pc' := 24) (ls' := [_, _, _, _, _, _]) dX5_stepAll_22 rfl (Nat.le_of_ble_eq_true rfl) rfl rfl ?_
      refine am_aload_n (pc' := 25) dX5_stepAll_24 rfl rfl rfl ?_
      refine am_iload (pc' := 27) dX5_stepAll_25 rfl rfl ?_
      refine am_iload_n (pc' := 28) dX5_stepAll_27 rfl rfl rfl ?_
      refine am_callV0 (pc' := 31) (as := [_, _]) (ci := 5)  rfl dX5_stepAll_28 rfl ok_X5_whereKept ml_X5_44 im_X5_whereKept se_X5_whereKept rfl (Nat.le_of_ble_eq_true rfl) rfl (Nat.le_of_ble_eq_true rfl) (by first | assumption | exact ⟨by omega, by omega, rfl⟩) (t_whereKept (h := h1) hS hv.1 (by omega) (by omega)) (fun r_28 ρ_28 h_28 q_28 g_28 e_28 => ?_)
      obtain ⟨rfl, rfl, qk⟩ := q_28
      rcases qk with rfl | ⟨kn, rfl, kn0, kn1, kn2⟩
      · refine am_istore (pc' := 33) (ls' := [_, _, _, _, _, _]) dX5_stepAll_31 rfl (Nat.le_of_ble_eq_true rfl) rfl rfl ?_
        refine am_iload (pc' := 35) dX5_stepAll_33 rfl rfl ?_
        refine am_bipush (pc' := 37) dX5_stepAll_35 rfl rfl (by decide) ?_
        refine am_icmp_eq (pc' := 40) (tgt := 59) dX5_stepAll_37 rfl rfl (fun c_37 => ?_) (fun c_37 => ?_)
        · first | (exfalso; omega) | exact K59 ht _
        · first | (exfalso; omega) | exact K40 _ ht kn0 kn1 kn2
      · refine am_istore (pc' := 33) (ls' := [_, _, _, _, _, _]) dX5_stepAll_31 rfl (Nat.le_of_ble_eq_true rfl) rfl rfl ?_
        refine am_iload (pc' := 35) dX5_stepAll_33 rfl rfl ?_
        refine am_bipush (pc' := 37) dX5_stepAll_35 rfl rfl (by decide) ?_
        refine am_icmp_eq (pc' := 40) (tgt := 59) dX5_stepAll_37 rfl rfl (fun c_37 => ?_) (fun c_37 => ?_)
        · first | (exfalso; omega) | exact K59 ht _
        · first | (exfalso; omega) | exact K40 _ ht kn0 kn1 kn2
theorem t_stepAll {ρ h : am_H} {A L S K P B : Int} {kd : Int → Int} {a : Nat} (hQ : ar_Q ρ h A L P B kd) (hS : am_DS ρ S K) (hdis : A + 4 < S ∨ S + 2 < A) (hK : h 19 7 ≤ K) (hp : sp_P h S K) (hV : sp_V h S (h 19 7) (h 29 3) (nxt P B kd) a) :
    am_CT mX5_stepAll 0 0 [am_R 29, am_R 19] ρ h (fun v ρ' h' => v = none ∧ ρ' = ρ ∧ am_fr [29, S, S + 1, S + 2] h h' ∧ (∀ k, k ≠ 3 → h' 29 k = h 29 k) ∧ sp_P h' S K ∧ sp_V h' S (h 19 7) (h' 29 3) (nxt P B kd) (a + 1)) := by
  obtain ⟨s0, s1, s2, s3, ⟨f1, f2, f3⟩, ⟨m1, m2, m3⟩, hS9, hK0, hK7⟩ := am_DSx hS
  have key := t_stepAll_l (Q := fun v ρ' h' => v = none ∧ ρ' = ρ ∧ am_fr [29, S, S + 1, S + 2] h h' ∧ (∀ k, k ≠ 3 → h' 29 k = h 29 k) ∧ sp_P h' S K ∧ sp_V h' S (h 19 7) (h' 29 3) (nxt P B kd) (a + 1)) hQ hS hdis hK hV.1 (fun h1 kept g1 g2 g3 => by
    refine ⟨rfl, rfl, am_fr_u (am_fr_sub g1 (by intro x hx; simp at hx ⊢; omega)) (by simp <;> omega), fun k hk => ?_, sp_P_u g2 (fun z => by omega), ?_⟩
    · rw [am_u_n (by omega), g1 29 k (by simp <;> omega)]
    · rw [am_u_s]
      have e1 : am_u h1 29 3 kept S = h1 S := funext fun k => am_u_n (by omega)
      have e2 : am_u h1 29 3 kept (S + 1) = h1 (S + 1) := funext fun k => am_u_n (by omega)
      unfold sp_V at g3 ⊢
      rw [e1, e2]
      exact g3)
  refine am_ct (ls := [some (am_R 29), some (am_R 19), none, none, none, none]) ok_X5_stepAll rfl (fun _ => Nat.le_of_ble_eq_true rfl) (fun _ => rfl) (by intro v hv; simpa using hv) ?_
  refine am_iconst (pc' := 1) dX5_stepAll_0 rfl rfl ?_
  refine am_istore_n (pc' := 2) (ls' := [_, _, _, _, _, _]) dX5_stepAll_1 rfl rfl (Nat.le_of_ble_eq_true rfl) rfl rfl ?_
  refine am_iconst (pc' := 3) dX5_stepAll_2 rfl rfl ?_
  refine am_istore_n (pc' := 4) (ls' := [_, _, _, _, _, _]) dX5_stepAll_3 rfl rfl (Nat.le_of_ble_eq_true rfl) rfl rfl ?_
  exact key ((h 29 3).toNat + 1) 0 0 _ _ h (by omega) (by omega) hV.1.1 (by omega) (by omega) am_fr_refl hp (sp_V_L hV)
