/-! both calls done: the same answer, and side by side again -/
theorem lw_f0 {h h' h2 : am_H} (a : lw_M h h) (c : ∀ x j, x = 1 ∨ x = 11 ∨ x = 33 → h' x j = h x j) (m : ∀ j, h2 38 j = h 38 j) : h2 38 1 = h' 11 1 ∧ h2 38 2 = h' 11 0 ∧ h2 38 3 = h' 1 7 ∧ h2 38 31 = h' 1 8 ∧ h2 38 0 = h' 1 9 ∧ h2 38 23 = h' 33 3 := by
  rw [m, m, m, m, m, m, c 11 1 (by omega), c 11 0 (by omega), c 1 7 (by omega), c 1 8 (by omega), c 1 9 (by omega), c 33 3 (by omega)]
  exact a.1
/-- the same, but for the fault -/
theorem lw_f9 {h h' h2 : am_H} {f : Int} (a : lw_M h h) (c : ∀ x j, x = 1 ∨ x = 11 ∨ x = 33 → ¬ (x = 1 ∧ j = 9) → h' x j = h x j) (m : ∀ j, j ≠ 0 → h2 38 j = h 38 j) (c9 : h' 1 9 = f) (m9 : h2 38 0 = f) : h2 38 1 = h' 11 1 ∧ h2 38 2 = h' 11 0 ∧ h2 38 3 = h' 1 7 ∧ h2 38 31 = h' 1 8 ∧ h2 38 0 = h' 1 9 ∧ h2 38 23 = h' 33 3 := by
  rw [m 1 (by omega), m 2 (by omega), m 3 (by omega), m 31 (by omega), m 23 (by omega), c 11 1 (by omega) (by omega), c 11 0 (by omega) (by omega), c 1 7 (by omega) (by omega), c 1 8 (by omega) (by omega), c 33 3 (by omega) (by omega)]
  exact ⟨a.1.1, a.1.2.1, a.1.2.2.1, a.1.2.2.2.1, by rw [c9, m9], a.1.2.2.2.2.2⟩
theorem lw_f1 {h h' h2 : am_H} (a : lw_M h h) (c : ∀ x j, 11 ≤ x ∧ x ≤ 13 → h' x j = h x j) (m : ∀ x j, 39 ≤ x ∧ x ≤ 40 → h2 x j = h x j) : ∀ p, 0 ≤ p → p < h' 11 1 → h2 39 p = h' 12 p ∧ h2 40 p = h' 13 p := fun p p0 p1 => by
  rw [c 11 1 (by omega)] at p1
  rw [m 39 p (by omega), m 40 p (by omega), c 12 p (by omega), c 13 p (by omega)]
  exact a.2.1 p p0 p1
theorem lw_f2 {h h' h2 : am_H} (a : lw_M h h) (c : ∀ x j, 33 ≤ x ∧ x ≤ 36 → h' x j = h x j) (m : ∀ x j, 51 ≤ x ∧ x ≤ 53 → h2 x j = h x j) : ∀ k, 0 ≤ k → k < h' 33 3 → h2 51 k = h' 34 k ∧ h2 52 k = h' 35 k ∧ h2 53 k = h' 36 k := fun k k0 k1 => by
  rw [c 33 3 (by omega)] at k1
  rw [m 51 k (by omega), m 52 k (by omega), m 53 k (by omega), c 34 k (by omega), c 35 k (by omega), c 36 k (by omega)]
  exact a.2.2.1 k k0 k1
theorem lw_f3 {h h' h2 : am_H} (a : lw_M h h) (c : ∀ x j, 3 ≤ x ∧ x ≤ 10 → h' x j = h x j) (m : ∀ x j, 54 ≤ x ∧ x ≤ 56 → h2 x j = h x j) : ∀ k, 0 ≤ k → k < 4 → lw_S h' h2 k := fun k k0 k1 => lw_S_c k0 k1 (fun x j z => c x j z) (lw_S_m (fun x j z => m x j z) (a.2.2.2 k k0 k1))
theorem cl_I_g {ρ h h' : am_H} {A L S K : Int} (hf : ∀ x j, (11 ≤ x ∧ x ≤ 12) ∨ (19 ≤ x ∧ x ≤ 20) ∨ (24 ≤ x ∧ x ≤ 32) ∨ 58 ≤ x → h' x j = h x j) (hG : cl_G h') (hI : cl_I ρ h A L S K) : cl_I ρ h' A L S K := by
  obtain ⟨i1, i2, i3, i4⟩ := hI
  have hA := i2.2.2.1.2.1
  have hS := i2.2.2.2.1.2.1
  have e11 : ∀ k, h' 11 k = h 11 k := fun k => hf 11 k (by omega)
  have e12 : h' 12 = h 12 := funext fun k => hf 12 k (by omega)
  refine ⟨hG, i2, ?_, ?_⟩
  · rw [e11, e11, e12, hf 19 7 (by omega)]
    rcases i3 with z | z
    · exact Or.inl z
    · exact Or.inr (ar_C_fr (fun k => hf 19 k (by omega)) (fun k => hf 20 k (by omega)) (fun x k z0 z1 => hf x k (by omega)) z)
  · rw [e11, e11, e12]
    exact sp_I_fr (fun k => hf 29 k (by omega)) (fun x k z0 z1 => hf x k (by omega)) i4
/-- numbers changed alone -/
theorem cl_G_n {h h' : am_H} (hf : ∀ x j, (3 ≤ x ∧ x ≤ 12) ∨ (33 ≤ x ∧ x ≤ 36) → h' x j = h x j) (hn : h 11 1 ≠ 0 → mt_ok (h 11 1) (h 11 0) (h' 13)) (hG : cl_G h) : cl_G h' := by
  have e : ∀ x, (3 ≤ x ∧ x ≤ 12) ∨ (33 ≤ x ∧ x ≤ 36) → h' x = h x := fun x z => funext fun j => hf x j z
  obtain ⟨g1, g2, g3⟩ := hG
  refine ⟨?_, fun k k0 k1 => ?_, ?_⟩
  · rcases g1 with z | ⟨⟨o1, o2, o3, o4, o5⟩, z2⟩
    · refine Or.inl ?_
      rw [e 11 (by omega)]
      exact z
    · refine Or.inr ⟨⟨?_, ?_, ?_, ?_, ?_⟩, ?_⟩
      · rw [e 11 (by omega)]; exact o1
      · rw [e 11 (by omega)]; exact o2
      · rw [e 11 (by omega)]; exact o3
      · rw [e 11 (by omega)]; exact o4
      · rw [e 11 (by omega)]; exact hn (by omega)
      · rw [e 11 (by omega), e 12 (by omega)]; exact z2
  · have z := g2 k k0 k1
    unfold am_SO at z ⊢
    rw [e (3 + 2 * k) (by omega)]
    exact z
  · unfold rd_OK at g3 ⊢
    rw [e 11 (by omega), e 33 (by omega), e 34 (by omega), e 35 (by omega)]
    exact g3
/-- readings changed alone -/
theorem cl_G_r {h h' : am_H} (hf : ∀ x j, (3 ≤ x ∧ x ≤ 13) → h' x j = h x j) (hO : rd_OK h' (h 11 1)) (hG : cl_G h) : cl_G h' := by
  have e : ∀ x, (3 ≤ x ∧ x ≤ 13) → h' x = h x := fun x z => funext fun j => hf x j z
  obtain ⟨g1, g2, g3⟩ := hG
  refine ⟨?_, fun k k0 k1 => ?_, by rw [e 11 (by omega)]; exact hO⟩
  · unfold cl_R am_RO at g1 ⊢
    rw [e 11 (by omega), e 12 (by omega), show h' (11 + 2) = h (11 + 2) from e 13 (by omega)]
    exact g1
  · have z := g2 k k0 k1
    unfold am_SO at z ⊢
    rw [e (3 + 2 * k) (by omega)]
    exact z
/-- sheets changed alone -/
theorem cl_G_s {h h' : am_H} (hf : ∀ x j, (11 ≤ x ∧ x ≤ 13) ∨ (33 ≤ x ∧ x ≤ 36) → h' x j = h x j) (hS : cl_S h') (hG : cl_G h) : cl_G h' := by
  have e : ∀ x, (11 ≤ x ∧ x ≤ 13) ∨ (33 ≤ x ∧ x ≤ 36) → h' x = h x := fun x z => funext fun j => hf x j z
  obtain ⟨g1, g2, g3⟩ := hG
  refine ⟨?_, hS, ?_⟩
  · unfold cl_R am_RO at g1 ⊢
    rw [e 11 (by omega), e 12 (by omega), show h' (11 + 2) = h (11 + 2) from e 13 (by omega)]
    exact g1
  · unfold rd_OK at g3 ⊢
    rw [e 11 (by omega), e 33 (by omega), e 34 (by omega), e 35 (by omega)]
    exact g3
section JT
variable {ρ h h1 h2 : am_H} {A L S K : Int}
theorem o_ofPlace_eq {P B : Int} {kd kd' f f' : Int → Int} (hP : P = 0 ∨ 2 ≤ P) (hk : mt_eq P kd kd') (hf : mt_eq P f f') (p w : Int) : o_ofPlace P B kd f p w = o_ofPlace P B kd' f' p w := by
  unfold o_ofPlace
  by_cases z : 0 ≤ p ∧ p < P
  · rw [if_pos z, if_pos z, hk p z.1 z.2, hf p z.1 z.2, mt_st_eq (by omega) hk hf p z.1 z.2]
  · rw [if_neg z, if_neg z]
theorem lw_P02 (hG : cl_G h) : h 11 1 = 0 ∨ 2 ≤ h 11 1 := by
  rcases hG.1 with z | ⟨⟨o1, _⟩, _⟩
  · exact Or.inl z.1
  · exact Or.inr o1
theorem jt_ofPlace (hJ : lw_J ρ h A L S K) {p w : Int} : o_ofPlace (h 11 1) (h 11 0) (h 12) (h 13) p w = o_ofPlace (h 38 1) (h 38 2) (h 39) (h 40) p w := by
  obtain ⟨⟨a1, a2, _⟩, b, _⟩ := id hJ.2
  rw [a1, a2]
  exact o_ofPlace_eq (lw_P02 hJ.1.1) (fun q q0 q1 => (b q q0 q1).1.symm) (fun q q0 q1 => (b q q0 q1).2.symm) p w
theorem jt_write (hJ : lw_J ρ h A L S K) {p v : Int} (e1 : h1 = if (0 ≤ p ∧ p < h 11 1) ∧ 0 ≤ v ∧ v < h 11 0 then am_u h 13 p v else h) (e2 : h2 = if (0 ≤ p ∧ p < h1 38 1) ∧ 0 ≤ v ∧ v < h1 38 2 then am_u h1 40 p v else h1) :
    o_write (h 11 1) (h 11 0) (h 13) p v = o_write (h1 38 1) (h1 38 2) (h1 40) p v ∧ lw_J ρ h2 A L S K := by
  obtain ⟨⟨a1, a2, _⟩, b, _⟩ := id hJ.2
  by_cases z : (0 ≤ p ∧ p < h 11 1) ∧ 0 ≤ v ∧ v < h 11 0
  · rw [if_pos z] at e1
    have f : ∀ x j, x ≠ 13 → h1 x j = h x j := fun x j y => by rw [e1, am_u_n (by omega)]
    have g1 : h1 38 1 = h 11 1 := (f 38 1 (by omega)).trans a1
    have g2 : h1 38 2 = h 11 0 := (f 38 2 (by omega)).trans a2
    rw [g1, g2, if_pos z] at e2
    have f2 : ∀ x j, x ≠ 40 → h2 x j = h1 x j := fun x j y => by rw [e2, am_u_n (by omega)]
    have f3 : ∀ x j, x ≠ 13 → x ≠ 40 → h2 x j = h x j := fun x j y y2 => (f2 x j y2).trans (f x j y)
    refine ⟨?_, lw_JJ (h1 := h1) (cl_I_g (fun x j y => f x j (by omega)) (cl_G_n (fun x j y => f x j (by omega)) (fun y q q0 q1 => ?_) hJ.1.1) hJ.1) (fun x j y => f2 x j (by omega)) ⟨lw_f0 hJ.2 (fun x j y => f x j (by omega)) (fun j => f3 38 j (by omega) (by omega)), fun q q0 q1 => ?_, lw_f2 hJ.2 (fun x j y => f x j (by omega)) (fun x j y => f3 x j (by omega) (by omega)), lw_f3 hJ.2 (fun x j y => f x j (by omega)) (fun x j y => f3 x j (by omega) (by omega))⟩⟩
    · unfold o_write
      rw [g1, g2, if_pos z.1, if_pos z.2, if_pos z.1, if_pos z.2, f 40 p (by omega)]
      exact (b p z.1.1 z.1.2).2.symm
    · rw [e1, am_u_if]
      split
      · exact z.2
      · exact (cl_RO hJ.1.1.1 y).1.2.2.2.2 q q0 q1
    · rw [f 11 1 (by omega)] at q1
      refine ⟨?_, ?_⟩
      · rw [f3 39 q (by omega) (by omega), f 12 q (by omega)]; exact (b q q0 q1).1
      · rw [e2, am_u_if, e1, am_u_if]
        split
        · rfl
        · rw [am_u_n (by omega)]; exact (b q q0 q1).2
  · rw [if_neg z] at e1
    subst e1
    rw [a1, a2, if_neg z] at e2
    subst e2
    refine ⟨?_, hJ⟩
    unfold o_write
    rw [a1, a2]
    by_cases y : 0 ≤ p ∧ p < h2 11 1
    · rw [if_pos y, if_pos y, if_neg (fun u => z ⟨y, u⟩), if_neg (fun u => z ⟨y, u⟩)]
    · rw [if_neg y, if_neg y]
theorem jt_steps (hJ : lw_J ρ h A L S K) {n : Int} {r r' : Option am_V}
    (q1 : (¬ (1 ≤ n ∧ n ≤ 99) ∧ r = some (am_I (-2)) ∧ h1 = h) ∨ ((1 ≤ n ∧ n ≤ 99) ∧ h 11 1 = 0 ∧ r = some (am_I (-3)) ∧ h1 = h) ∨
    ((1 ≤ n ∧ n ≤ 99) ∧ h 11 1 ≠ 0 ∧ am_fr [1, 13, 14] h h1 ∧ h1 1 7 = am_w (h 1 7 + n) ∧ h1 1 8 = h 1 8 ∧ h1 1 9 = h 1 9 ∧ mt_eq (h 11 1) (h1 13) (mt_it (h 11 1) (h 11 0) (h 12) n.toNat (h 13)) ∧ r = some (am_I (mt_sum (fun q => if h1 13 q = 0 then 1 else 0) (h 11 1).toNat))))
    (q2 : (¬ (1 ≤ n ∧ n ≤ 99) ∧ r' = some (am_I (-2)) ∧ h2 = h1) ∨ ((1 ≤ n ∧ n ≤ 99) ∧ h1 38 1 = 0 ∧ r' = some (am_I (-3)) ∧ h2 = h1) ∨
    ((1 ≤ n ∧ n ≤ 99) ∧ h1 38 1 ≠ 0 ∧ am_fr [38, 40, 43, 44] h1 h2 ∧ h2 38 3 = am_w (h1 38 3 + n) ∧ (∀ k, k ≠ 3 → h2 38 k = h1 38 k) ∧ mt_eq (h1 38 1) (h2 40) (mt_it (h1 38 1) (h1 38 2) (h1 39) n.toNat (h1 40)) ∧ r' = some (am_I (mt_sum (fun q => if h2 40 q = 0 then 1 else 0) (h1 38 1).toNat)))) :
    r = r' ∧ lw_J ρ h2 A L S K := by
  obtain ⟨⟨a1, a2, a3, a4, a5, a6⟩, b, _⟩ := id hJ.2
  rcases q1 with ⟨z, rfl, rfl⟩ | ⟨z, z2, rfl, rfl⟩ | ⟨z, z2, c1, c2, c3, c4, c5, rfl⟩
  · rcases q2 with ⟨y, rfl, rfl⟩ | ⟨y, _⟩ | ⟨y, _⟩
    · exact ⟨rfl, hJ⟩
    · exact absurd y z
    · exact absurd y z
  · rcases q2 with ⟨y, _⟩ | ⟨y, y2, rfl, rfl⟩ | ⟨y, y2, _⟩
    · exact absurd z y
    · exact ⟨rfl, hJ⟩
    · exact absurd (a1.trans z2) y2
  · have f : ∀ x j, x ≠ 1 → x ≠ 13 → x ≠ 14 → h1 x j = h x j := fun x j y1 y2 y3 => c1 x j (by simp; omega)
    have g1 : h1 38 1 = h 11 1 := (f 38 1 (by omega) (by omega) (by omega)).trans a1
    have g2 : h1 38 2 = h 11 0 := (f 38 2 (by omega) (by omega) (by omega)).trans a2
    have hP := (cl_RO hJ.1.1.1 z2).1
    rcases q2 with ⟨y, _⟩ | ⟨y, y2, _⟩ | ⟨y, y2, d1, d2, d3, d4, rfl⟩
    · exact absurd z y
    · exact absurd (g1.symm.trans y2) z2
    · rw [g1, g2] at d4
      have f2 : ∀ x j, ¬ (x = 38 ∨ x = 40 ∨ x = 43 ∨ x = 44) → h2 x j = h1 x j := fun x j y1 => d1 x j (by simp; omega)
      have eq : mt_eq (h 11 1) (h2 40) (h1 13) := fun p p0 p1 => by
        rw [d4 p p0 p1, c5 p p0 p1]
        refine mt_it_eq hP.1 (fun q q0 q1 => ?_) (fun q q0 q1 => ?_) n.toNat p p0 p1
        · rw [f 39 q (by omega) (by omega) (by omega)]; exact (b q q0 q1).1
        · rw [f 40 q (by omega) (by omega) (by omega)]; exact (b q q0 q1).2
      refine ⟨?_, lw_JJ (h1 := h1) (cl_I_g (fun x j y => f x j (by omega) (by omega) (by omega)) (cl_G_n (fun x j y => f x j (by omega) (by omega) (by omega)) (fun y q q0 q1 => ?_) hJ.1.1) hJ.1) (fun x j y => f2 x j (by omega)) ⟨⟨?_, ?_, ?_, ?_, ?_, ?_⟩, fun q q0 q1 => ?_, lw_f2 hJ.2 (fun x j y => f x j (by omega) (by omega) (by omega)) (fun x j y => (f2 x j (by omega)).trans (f x j (by omega) (by omega) (by omega))), lw_f3 hJ.2 (fun x j y => f x j (by omega) (by omega) (by omega)) (fun x j y => (f2 x j (by omega)).trans (f x j (by omega) (by omega) (by omega)))⟩⟩
      · rw [g1, mt_sum_z_eq (by have := hP.1; omega) eq]
      · rw [c5 q q0 q1]; exact mt_it_in hP.1 hP.2.2.2.2 n.toNat q q0 q1
      · rw [d3 1 (by omega), g1, f 11 1 (by omega) (by omega) (by omega)]
      · rw [d3 2 (by omega), g2, f 11 0 (by omega) (by omega) (by omega)]
      · rw [d2, c2, f 38 3 (by omega) (by omega) (by omega), a3]
      · rw [d3 31 (by omega), c3, f 38 31 (by omega) (by omega) (by omega), a4]
      · rw [d3 0 (by omega), c4, f 38 0 (by omega) (by omega) (by omega), a5]
      · rw [d3 23 (by omega), f 33 3 (by omega) (by omega) (by omega), f 38 23 (by omega) (by omega) (by omega), a6]
      · rw [f 11 1 (by omega) (by omega) (by omega)] at q1
        refine ⟨?_, eq q q0 q1⟩
        rw [f2 39 q (by omega), f 39 q (by omega) (by omega) (by omega), f 12 q (by omega) (by omega) (by omega)]; exact (b q q0 q1).1
theorem jt_back (hJ : lw_J ρ h A L S K) {k : Int} {r r' : Option am_V}
    (q1 : (¬ (0 ≤ k ∧ k ≤ h 33 3) ∧ r = some (am_I (-2)) ∧ h1 = h) ∨ ((0 ≤ k ∧ k ≤ h 33 3) ∧ r = some (am_I (h 33 3 - k)) ∧ h1 = am_u h 33 3 (h 33 3 - k)))
    (q2 : (¬ (0 ≤ k ∧ k ≤ h1 38 23) ∧ r' = some (am_I (-2)) ∧ h2 = h1) ∨ ((0 ≤ k ∧ k ≤ h1 38 23) ∧ r' = some (am_I (h1 38 23 - k)) ∧ h2 = am_u h1 38 23 (h1 38 23 - k))) : r = r' ∧ lw_J ρ h2 A L S K := by
  obtain ⟨⟨a1, a2, a3, a4, a5, a6⟩, b, cc, d⟩ := id hJ.2
  rcases q1 with ⟨z, rfl, rfl⟩ | ⟨z, rfl, e1⟩
  · rcases q2 with ⟨y, rfl, rfl⟩ | ⟨y, _⟩
    · exact ⟨rfl, hJ⟩
    · rw [a6] at y; exact absurd y z
  · have f : ∀ x j, ¬ (x = 33 ∧ j = 3) → h1 x j = h x j := fun x j y => by rw [e1, am_u_n y]
    have f33 : h1 33 3 = h 33 3 - k := by rw [e1, am_u_s]
    have g : h1 38 23 = h 33 3 := (f 38 23 (by omega)).trans a6
    rw [g] at q2
    rcases q2 with ⟨y, _⟩ | ⟨y, rfl, e2⟩
    · exact absurd z y
    · have f2 : ∀ x j, ¬ (x = 38 ∧ j = 23) → h2 x j = h1 x j := fun x j y => by rw [e2, am_u_n y]
      have f3 : ∀ x j, ¬ (x = 38 ∧ j = 23) → ¬ (x = 33 ∧ j = 3) → h2 x j = h x j := fun x j y1 y2 => (f2 x j y1).trans (f x j y2)
      obtain ⟨r1, r2, r3⟩ := id hJ.1.1.2.2
      refine ⟨rfl, lw_JJ (h1 := h1) (cl_I_g (fun x j y => f x j (by omega)) (cl_G_r (fun x j y => f x j (by omega)) ⟨by omega, by omega, fun q q0 q1 => ?_⟩ hJ.1.1) hJ.1) (fun x j y => f2 x j (by omega)) ⟨⟨?_, ?_, ?_, ?_, ?_, ?_⟩, lw_f1 hJ.2 (fun x j y => f x j (by omega)) (fun x j y => f3 x j (by omega) (by omega)), fun q q0 q1 => ?_, lw_f3 hJ.2 (fun x j y => f x j (by omega)) (fun x j y => f3 x j (by omega) (by omega))⟩⟩
      · rw [f33] at q1
        rw [f 34 q (by omega), f 35 q (by omega)]; exact r3 q q0 (by omega)
      · rw [f3 38 1 (by omega) (by omega), f 11 1 (by omega)]; exact a1
      · rw [f3 38 2 (by omega) (by omega), f 11 0 (by omega)]; exact a2
      · rw [f3 38 3 (by omega) (by omega), f 1 7 (by omega)]; exact a3
      · rw [f3 38 31 (by omega) (by omega), f 1 8 (by omega)]; exact a4
      · rw [f3 38 0 (by omega) (by omega), f 1 9 (by omega)]; exact a5
      · rw [e2, am_u_s, f33]
      · rw [f33] at q1
        rw [f3 51 q (by omega) (by omega), f3 52 q (by omega) (by omega), f3 53 q (by omega) (by omega), f 34 q (by omega), f 35 q (by omega), f 36 q (by omega)]; exact cc q q0 (by omega)
theorem jt_reading (hJ : lw_J ρ h A L S K) {t p v : Int} {r r' : Option am_V}
    (q1 : (¬ (0 ≤ p ∧ p < h 11 1) ∧ r = some (am_I (-1)) ∧ h1 = h) ∨ ((0 ≤ p ∧ p < h 11 1) ∧ ¬ ((0 ≤ t ∧ t ≤ 99) ∧ 0 ≤ v ∧ v ≤ 5) ∧ r = some (am_I (-2)) ∧ h1 = h) ∨ ((0 ≤ p ∧ p < h 11 1) ∧ ((0 ≤ t ∧ t ≤ 99) ∧ 0 ≤ v ∧ v ≤ 5) ∧
    ((h 33 3 = 8 ∧ r = some (am_I (-4)) ∧ h1 = h) ∨ (h 33 3 < 8 ∧ r = some (am_I (h 33 3)) ∧ am_fr [33, 34, 35, 36] h h1 ∧ h1 33 3 = h 33 3 + 1 ∧ h1 34 (h 33 3) = t ∧ h1 35 (h 33 3) = p ∧ h1 36 (h 33 3) = v ∧ ∀ k, 0 ≤ k → k < h 33 3 → h1 34 k = h 34 k ∧ h1 35 k = h 35 k ∧ h1 36 k = h 36 k))))
    (q2 : (¬ (0 ≤ p ∧ p < h1 38 1) ∧ r' = some (am_I (-1)) ∧ h2 = h1) ∨ ((0 ≤ p ∧ p < h1 38 1) ∧ ¬ ((0 ≤ t ∧ t ≤ 99) ∧ 0 ≤ v ∧ v ≤ 5) ∧ r' = some (am_I (-2)) ∧ h2 = h1) ∨ ((0 ≤ p ∧ p < h1 38 1) ∧ ((0 ≤ t ∧ t ≤ 99) ∧ 0 ≤ v ∧ v ≤ 5) ∧
    ((h1 38 23 = 8 ∧ r' = some (am_I (-4)) ∧ h2 = h1) ∨ (h1 38 23 < 8 ∧ r' = some (am_I (h1 38 23)) ∧ h2 = am_u (am_u (am_u (am_u h1 51 (h1 38 23) t) 52 (h1 38 23) p) 53 (h1 38 23) v) 38 23 (h1 38 23 + 1))))) : r = r' ∧ lw_J ρ h2 A L S K := by
  obtain ⟨⟨a1, a2, a3, a4, a5, a6⟩, b, cc, d⟩ := id hJ.2
  rcases q1 with ⟨z, rfl, rfl⟩ | ⟨z, z2, rfl, rfl⟩ | ⟨z, z2, ⟨z3, rfl, rfl⟩ | ⟨z3, rfl, c1, c2, c3, c4, c5, c6⟩⟩
  · rw [a1] at q2
    rcases q2 with ⟨y, rfl, rfl⟩ | ⟨y, _⟩ | ⟨y, _⟩
    · exact ⟨rfl, hJ⟩
    · exact absurd y z
    · exact absurd y z
  · rw [a1] at q2
    rcases q2 with ⟨y, _⟩ | ⟨y, y2, rfl, rfl⟩ | ⟨y, y2, _⟩
    · exact absurd z y
    · exact ⟨rfl, hJ⟩
    · exact absurd y2 z2
  · rw [a1, a6] at q2
    rcases q2 with ⟨y, _⟩ | ⟨y, y2, _⟩ | ⟨y, y2, ⟨y3, rfl, rfl⟩ | ⟨y3, _⟩⟩
    · exact absurd z y
    · exact absurd z2 y2
    · exact ⟨rfl, hJ⟩
    · omega
  · have f : ∀ x j, ¬ (33 ≤ x ∧ x ≤ 36) → h1 x j = h x j := fun x j y => c1 x j (by simp; omega)
    have g : h1 38 23 = h 33 3 := (f 38 23 (by omega)).trans a6
    rw [g, f 38 1 (by omega), a1] at q2
    rcases q2 with ⟨y, _⟩ | ⟨y, y2, _⟩ | ⟨y, y2, ⟨y3, _⟩ | ⟨y3, rfl, e2⟩⟩
    · exact absurd z y
    · exact absurd z2 y2
    · omega
    · have f2 : ∀ x j, ¬ (x = 38 ∧ j = 23) → ¬ (51 ≤ x ∧ x ≤ 53) → h2 x j = h1 x j := fun x j y1 y2 => by rw [e2, am_u_n y1, am_u_n (by omega), am_u_n (by omega), am_u_n (by omega)]
      have f3 : ∀ x j, ¬ (x = 38 ∧ j = 23) → ¬ (51 ≤ x ∧ x ≤ 53) → ¬ (33 ≤ x ∧ x ≤ 36) → h2 x j = h x j := fun x j y1 y2 y3 => (f2 x j y1 y2).trans (f x j y3)
      have k1 : ∀ q, h2 51 q = if q = h 33 3 then t else h 51 q := fun q => by rw [e2, am_u_n (by omega), am_u_n (by omega), am_u_n (by omega), am_u_if, f 51 q (by omega)]
      have k2 : ∀ q, h2 52 q = if q = h 33 3 then p else h 52 q := fun q => by rw [e2, am_u_n (by omega), am_u_n (by omega), am_u_if, am_u_n (by omega), f 52 q (by omega)]
      have k3 : ∀ q, h2 53 q = if q = h 33 3 then v else h 53 q := fun q => by rw [e2, am_u_n (by omega), am_u_if, am_u_n (by omega), am_u_n (by omega), f 53 q (by omega)]
      obtain ⟨r1, r2, r3⟩ := id hJ.1.1.2.2
      refine ⟨rfl, lw_JJ (h1 := h1) (cl_I_g (fun x j y => f x j (by omega)) (cl_G_r (fun x j y => f x j (by omega)) ⟨by omega, by omega, fun q q0 q1 => ?_⟩ hJ.1.1) hJ.1) (fun x j y => f2 x j (by omega) (by omega)) ⟨⟨?_, ?_, ?_, ?_, ?_, ?_⟩, lw_f1 hJ.2 (fun x j y => f x j (by omega)) (fun x j y => f3 x j (by omega) (by omega) (by omega)), fun q q0 q1 => ?_, lw_f3 hJ.2 (fun x j y => f x j (by omega)) (fun x j y => f3 x j (by omega) (by omega) (by omega))⟩⟩
      · rw [c2] at q1
        by_cases u : q = h 33 3
        · rw [u, c3, c4]; omega
        · rw [(c6 q q0 (by omega)).1, (c6 q q0 (by omega)).2.1]; exact r3 q q0 (by omega)
      · rw [f3 38 1 (by omega) (by omega) (by omega), f 11 1 (by omega)]; exact a1
      · rw [f3 38 2 (by omega) (by omega) (by omega), f 11 0 (by omega)]; exact a2
      · rw [f3 38 3 (by omega) (by omega) (by omega), f 1 7 (by omega)]; exact a3
      · rw [f3 38 31 (by omega) (by omega) (by omega), f 1 8 (by omega)]; exact a4
      · rw [f3 38 0 (by omega) (by omega) (by omega), f 1 9 (by omega)]; exact a5
      · rw [e2, am_u_s, c2]
      · rw [c2] at q1
        rw [k1, k2, k3]
        by_cases u : q = h 33 3
        · rw [if_pos u, if_pos u, if_pos u, u, c3, c4, c5]; exact ⟨rfl, rfl, rfl⟩
        · rw [if_neg u, if_neg u, if_neg u, (c6 q q0 (by omega)).1, (c6 q q0 (by omega)).2.1, (c6 q q0 (by omega)).2.2]; exact cc q q0 (by omega)
end JT
