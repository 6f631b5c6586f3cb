/-! both calls done: sheets -/
theorem lw_S_o {h h' h1 h2 : am_H} {k : Int} (hO : h (3 + 2 * k) 1 ≤ 60) (c : ∀ j, h' (3 + 2 * k) j = h (3 + 2 * k) j) (c2 : ∀ j, h' (3 + 2 * k + 1) j = h (3 + 2 * k + 1) j) (m : h2 54 k = h1 54 k ∧ h2 55 k = h1 55 k) (m2 : ∀ i, 0 ≤ i → i < 60 → h2 56 (60 * k + i) = h1 56 (60 * k + i)) (a : lw_S h h1 k) : lw_S h' h2 k := by
  obtain ⟨a1, a2, a3⟩ := a
  refine ⟨?_, ?_, fun z => ?_⟩
  · rw [c, ← a1]
    unfold md_ln
    rw [m.1, m.2]
  · rw [m.1, m.2]; exact a2
  · rw [c] at z
    refine ⟨?_, fun i i0 i1 => ?_⟩
    · rw [m.1, c]; exact (a3 z).1
    · rw [c] at i1
      rw [m2 i i0 (by omega), c2]; exact (a3 z).2 i i0 i1
/-- nothing is told by its size -/
theorem lw_no {h h1 : am_H} {k : Int} (a : lw_S h h1 k) : h (3 + 2 * k) 0 = -1 ↔ h1 54 k < 0 := by
  obtain ⟨a1, a2, a3⟩ := a
  unfold md_ln at a1
  constructor
  · intro z
    by_cases y : h1 54 k < 0
    · exact y
    · rw [if_neg y] at a1
      omega
  · intro z
    rw [if_pos z] at a1
    omega
section JT
variable {ρ ρ1 h h1 h2 : am_H} {A L S K : Int}
theorem jt_sheet (hJ : lw_J ρ h A L S K) {k l n : Int} {r r' : Option am_V}
    (q1 : (¬ (0 ≤ k ∧ k < 4) ∧ r = some (am_I (-1)) ∧ h1 = am_u h 1 9 0) ∨ ((0 ≤ k ∧ k < 4) ∧ ¬ ((0 ≤ l ∧ l < 3) ∧ n ≤ 60) ∧ r = some (am_I (-2)) ∧ h1 = am_u h 1 9 0) ∨ ((0 ≤ k ∧ k < 4) ∧ ((0 ≤ l ∧ l < 3) ∧ n ≤ 60) ∧ n < 0 ∧ r = some (am_I (-14)) ∧ h1 = am_u h 1 9 4) ∨
    ((0 ≤ k ∧ k < 4) ∧ ((0 ≤ l ∧ l < 3) ∧ n ≤ 60) ∧ 0 ≤ n ∧ r = some (am_I 1) ∧ am_fr [3 + 2 * k, 3 + 2 * k + 1] (am_u h 1 9 0) h1 ∧ h1 (3 + 2 * k) 0 = l ∧ h1 (3 + 2 * k) 1 = n ∧ ∀ i, 0 ≤ i → i < 60 → h1 (3 + 2 * k + 1) i = 0))
    (q2 : (¬ (0 ≤ k ∧ k < 4) ∧ r' = some (am_I (-1)) ∧ h2 = am_u h1 38 0 0) ∨ ((0 ≤ k ∧ k < 4) ∧ ¬ ((0 ≤ l ∧ l < 3) ∧ n ≤ 60) ∧ r' = some (am_I (-2)) ∧ h2 = am_u h1 38 0 0) ∨ ((0 ≤ k ∧ k < 4) ∧ ((0 ≤ l ∧ l < 3) ∧ n ≤ 60) ∧ n < 0 ∧ r' = some (am_I (-14)) ∧ h2 = am_u h1 38 0 4) ∨
    ((0 ≤ k ∧ k < 4) ∧ ((0 ≤ l ∧ l < 3) ∧ n ≤ 60) ∧ 0 ≤ n ∧ r' = some (am_I 1) ∧ ∃ h3, h2 = am_u h3 38 0 0 ∧ am_fr [56] (am_u (am_u h1 54 k n) 55 k l) h3 ∧ ∀ j, h3 56 j = if 60 * k ≤ j ∧ j < 60 * k + n then 0 else h1 56 j)) : r = r' ∧ lw_J ρ h2 A L S K := by
  rcases q1 with ⟨z, rfl, e1⟩ | ⟨z, z2, rfl, e1⟩ | ⟨z, z2, z3, rfl, e1⟩ | ⟨z, z2, z3, rfl, c1, c2, c3, c4⟩
  · rcases q2 with ⟨y, rfl, e2⟩ | ⟨y, _⟩ | ⟨y, _⟩ | ⟨y, _⟩
    · exact ⟨rfl, lw_sc9 hJ e1 e2⟩
    · exact absurd y z
    · exact absurd y z
    · exact absurd y z
  · rcases q2 with ⟨y, _⟩ | ⟨y, y2, rfl, e2⟩ | ⟨y, y2, _⟩ | ⟨y, y2, _⟩
    · exact absurd z y
    · exact ⟨rfl, lw_sc9 hJ e1 e2⟩
    · exact absurd y2 z2
    · exact absurd y2 z2
  · rcases q2 with ⟨y, _⟩ | ⟨y, y2, _⟩ | ⟨y, y2, y3, rfl, e2⟩ | ⟨y, y2, y3, _⟩
    · exact absurd z y
    · exact absurd z2 y2
    · exact ⟨rfl, lw_sc9 hJ e1 e2⟩
    · omega
  · rcases q2 with ⟨y, _⟩ | ⟨y, y2, _⟩ | ⟨y, y2, y3, _⟩ | ⟨y, y2, y3, rfl, h3, e2, d1, d2⟩
    · exact absurd z y
    · exact absurd z2 y2
    · omega
    · have f : ∀ x j, x ≠ 3 + 2 * k → x ≠ 3 + 2 * k + 1 → ¬ (x = 1 ∧ j = 9) → h1 x j = h x j := fun x j u1 u2 u3 => by rw [c1 x j (by simp; omega), am_u_n u3]
      have f9 : h1 1 9 = 0 := by rw [c1 1 9 (by simp; omega), am_u_s]
      have g : ∀ x j, x ≠ 56 → ¬ (x = 38 ∧ j = 0) → ¬ (x = 54 ∧ j = k) → ¬ (x = 55 ∧ j = k) → h2 x j = h1 x j := fun x j u1 u2 u3 u4 => by rw [e2, am_u_n u2, d1 x j (by simp; omega), am_u_n u4, am_u_n u3]
      have g0 : h2 38 0 = 0 := by rw [e2, am_u_s]
      have g4 : h2 54 k = n := by rw [e2, am_u_n (by omega), d1 54 k (by simp), am_u_n (by omega), am_u_s]
      have g5 : h2 55 k = l := by rw [e2, am_u_n (by omega), d1 55 k (by simp), am_u_s]
      have g6 : ∀ j, h2 56 j = if 60 * k ≤ j ∧ j < 60 * k + n then 0 else h 56 j := fun j => by rw [e2, am_u_n (by omega), d2 j, f 56 j (by omega) (by omega) (by omega)]
      have hcs : cl_S h1 := fun q q0 q1 => by
        by_cases u : q = k
        · rw [u]
          unfold am_SO
          rw [c2, c3]
          omega
        · unfold am_SO
          rw [f _ 0 (by omega) (by omega) (by omega), f _ 1 (by omega) (by omega) (by omega)]
          exact hJ.1.1.2.1 q q0 q1
      have gh : ∀ x j, x ≠ 56 → ¬ (x = 38 ∧ j = 0) → ¬ (x = 54 ∧ j = k) → ¬ (x = 55 ∧ j = k) → 38 ≤ x → h2 x j = h x j := fun x j u1 u2 u3 u4 u5 => (g x j u1 u2 u3 u4).trans (f x j (by omega) (by omega) (by omega))
      refine ⟨rfl, lw_JJ (h1 := h1) (cl_I_g (fun x j u => f x j (by omega) (by omega) (by omega)) (cl_G_s (fun x j u => f x j (by omega) (by omega) (by omega)) hcs hJ.1.1) hJ.1) (fun x j u => g x j (by omega) (by omega) (by omega) (by omega)) ⟨lw_f9 hJ.2 (fun x j u1 u2 => f x j (by omega) (by omega) u2) (fun j u => gh 38 j (by omega) (by omega) (by omega) (by omega) (by omega)) f9 g0, lw_f1 hJ.2 (fun x j u => f x j (by omega) (by omega) (by omega)) (fun x j u => gh x j (by omega) (by omega) (by omega) (by omega) (by omega)), lw_f2 hJ.2 (fun x j u => f x j (by omega) (by omega) (by omega)) (fun x j u => gh x j (by omega) (by omega) (by omega) (by omega) (by omega)), fun q q0 q1 => ?_⟩⟩
      by_cases u : q = k
      · rw [u]
        refine ⟨?_, ?_, fun _ => ⟨by rw [g4, c3], fun i i0 i1 => ?_⟩⟩
        · rw [md_ln_p (by omega), g5, c2]
        · rw [g4, g5]; omega
        · rw [c3] at i1
          rw [g6, if_pos (by omega), c4 i i0 (by omega)]
      · exact lw_S_o (hJ.1.1.2.1 q q0 q1).1.2 (fun j => f _ j (by omega) (by omega) (by omega)) (fun j => f _ j (by omega) (by omega) (by omega)) ⟨gh 54 q (by omega) (by omega) (by omega) (by omega) (by omega), gh 55 q (by omega) (by omega) (by omega) (by omega) (by omega)⟩ (fun i i0 i1 => by rw [g6, if_neg (by omega)]) (hJ.2.2.2.2 q q0 q1)
theorem jt_lose (hJ : lw_J ρ h A L S K) {k : Int} {r r' : Option am_V}
    (q1 : (¬ (0 ≤ k ∧ k < 4) ∧ r = some (am_I (-1)) ∧ h1 = h) ∨ ((0 ≤ k ∧ k < 4) ∧ r = some (am_I (if h (3 + 2 * k) 0 = -1 then 0 else 1)) ∧ h1 = am_u (am_u h (3 + 2 * k) 0 (-1)) (3 + 2 * k) 1 0))
    (q2 : (¬ (0 ≤ k ∧ k < 4) ∧ r' = some (am_I (-1)) ∧ h2 = h1) ∨ ((0 ≤ k ∧ k < 4) ∧ r' = some (am_I (if h1 54 k < 0 then 0 else 1)) ∧ h2 = am_u h1 54 k (-1))) : r = r' ∧ lw_J ρ h2 A L S K := by
  rcases q1 with ⟨z, rfl, e1⟩ | ⟨z, rfl, e1⟩
  · rcases q2 with ⟨y, rfl, e2⟩ | ⟨y, _⟩
    · rw [e2, e1]; exact ⟨rfl, hJ⟩
    · exact absurd y z
  · rcases q2 with ⟨y, _⟩ | ⟨y, rfl, e2⟩
    · exact absurd z y
    · have f : ∀ x j, ¬ (x = 3 + 2 * k ∧ (j = 0 ∨ j = 1)) → h1 x j = h x j := fun x j u => by rw [e1, am_u_n (by omega), am_u_n (by omega)]
      have f0 : h1 (3 + 2 * k) 0 = -1 := by rw [e1, am_u_n (by omega), am_u_s]
      have f1 : h1 (3 + 2 * k) 1 = 0 := by rw [e1, am_u_s]
      have g : ∀ x j, ¬ (x = 54 ∧ j = k) → h2 x j = h1 x j := fun x j u => by rw [e2, am_u_n u]
      have g4 : h2 54 k = -1 := by rw [e2, am_u_s]
      have gh : ∀ x j, ¬ (x = 54 ∧ j = k) → 11 ≤ x → h2 x j = h x j := fun x j u u2 => (g x j u).trans (f x j (by omega))
      have hs := hJ.2.2.2.2 k z.1 z.2
      have hno := lw_no hs
      have hcs : cl_S h1 := fun q q0 q1 => by
        by_cases u : q = k
        · rw [u]
          unfold am_SO
          rw [f0, f1]
          omega
        · unfold am_SO
          rw [f _ 0 (by omega), f _ 1 (by omega)]
          exact hJ.1.1.2.1 q q0 q1
      refine ⟨?_, lw_JJ (h1 := h1) (cl_I_g (fun x j u => f x j (by omega)) (cl_G_s (fun x j u => f x j (by omega)) hcs hJ.1.1) hJ.1) (fun x j u => g x j (by omega)) ⟨lw_f0 hJ.2 (fun x j u => f x j (by omega)) (fun j => gh 38 j (by omega) (by omega)), lw_f1 hJ.2 (fun x j u => f x j (by omega)) (fun x j u => gh x j (by omega) (by omega)), lw_f2 hJ.2 (fun x j u => f x j (by omega)) (fun x j u => gh x j (by omega) (by omega)), fun q q0 q1 => ?_⟩⟩
      · rw [f 54 k (by omega)]
        by_cases u : h (3 + 2 * k) 0 = -1
        · rw [if_pos u, if_pos (hno.mp u)]
        · rw [if_neg u, if_neg (fun w => u (hno.mpr w))]
      · by_cases u : q = k
        · rw [u]
          refine ⟨?_, ?_, fun w => absurd f0 w⟩
          · rw [md_ln_n (by omega), f0]
          · rw [g4, gh 55 k (by omega) (by omega)]
            have := hs.2.1
            omega
        · exact lw_S_o (hJ.1.1.2.1 q q0 q1).1.2 (fun j => f _ j (by omega)) (fun j => f _ j (by omega)) ⟨gh 54 q (by omega) (by omega), gh 55 q (by omega) (by omega)⟩ (fun i i0 i1 => gh 56 _ (by omega) (by omega)) (hJ.2.2.2.2 q q0 q1)
theorem jt_put (hJ : lw_J ρ h A L S K) {k i v : Int} {r r' : Option am_V}
    (q1 : (¬ (0 ≤ k ∧ k < 4) ∧ r = some (am_I (-1)) ∧ h1 = am_u h 1 9 0) ∨ ((0 ≤ k ∧ k < 4) ∧ sh_of (h (3 + 2 * k) 0) (h (3 + 2 * k) 1) i 1 ≠ 0 ∧ r = some (am_I (-10 - sh_of (h (3 + 2 * k) 0) (h (3 + 2 * k) 1) i 1)) ∧ h1 = am_u h 1 9 (sh_of (h (3 + 2 * k) 0) (h (3 + 2 * k) 1) i 1)) ∨
    ((0 ≤ k ∧ k < 4) ∧ sh_of (h (3 + 2 * k) 0) (h (3 + 2 * k) 1) i 1 = 0 ∧ r = some (am_I 1) ∧ h1 = am_u (am_u h 1 9 0) (3 + 2 * k + 1) i (sh_cut (h (3 + 2 * k) 0) v)))
    (f38 : ∀ x j, 38 ≤ x → x ≤ 57 → h1 x j = h x j)
    (q2 : (¬ (0 ≤ k ∧ k < 4) ∧ r' = some (am_I (-1)) ∧ h2 = am_u h1 38 0 0) ∨ ((0 ≤ k ∧ k < 4) ∧ sh_of (md_ln h1 k) (h1 54 k) i 1 ≠ 0 ∧ r' = some (am_I (-10 - sh_of (md_ln h1 k) (h1 54 k) i 1)) ∧ h2 = am_u h1 38 0 (sh_of (md_ln h1 k) (h1 54 k) i 1)) ∨
    ((0 ≤ k ∧ k < 4) ∧ sh_of (md_ln h1 k) (h1 54 k) i 1 = 0 ∧ r' = some (am_I 1) ∧ h2 = am_u (am_u h1 56 (60 * k + i) (sh_cut (h1 55 k) v)) 38 0 0)) : r = r' ∧ lw_J ρ h2 A L S K := by
  have m := lw_keepM hJ f38
  rcases q1 with ⟨z, rfl, e1⟩ | ⟨z, z2, rfl, e1⟩ | ⟨z, z2, rfl, e1⟩
  · rcases q2 with ⟨y, rfl, e2⟩ | ⟨y, _⟩ | ⟨y, _⟩
    · exact ⟨rfl, lw_sc9 hJ e1 e2⟩
    · exact absurd y z
    · exact absurd y z
  · rw [lw_of m z] at q2
    rcases q2 with ⟨y, _⟩ | ⟨y, y2, rfl, e2⟩ | ⟨y, y2, _⟩
    · exact absurd z y
    · exact ⟨rfl, lw_sc9 hJ e1 e2⟩
    · exact absurd y2 z2
  · rw [lw_of m z] at q2
    rcases q2 with ⟨y, _⟩ | ⟨y, y2, _⟩ | ⟨y, y2, rfl, e2⟩
    · exact absurd z y
    · exact absurd z2 y2
    · have hz := sh_of0 z2
      have hs := hJ.2.2.2.2 k z.1 z.2
      have hO := hJ.1.1.2.1 k z.1 z.2
      unfold am_SO at hO
      have f : ∀ x j, ¬ (x = 3 + 2 * k + 1 ∧ j = i) → ¬ (x = 1 ∧ j = 9) → h1 x j = h x j := fun x j u1 u2 => by rw [e1, am_u_n u1, am_u_n u2]
      have f9 : h1 1 9 = 0 := by rw [e1, am_u_n (by omega), am_u_s]
      have fi : h1 (3 + 2 * k + 1) i = sh_cut (h (3 + 2 * k) 0) v := by rw [e1, am_u_s]
      have g : ∀ x j, ¬ (x = 56 ∧ j = 60 * k + i) → ¬ (x = 38 ∧ j = 0) → h2 x j = h1 x j := fun x j u1 u2 => by rw [e2, am_u_n u2, am_u_n u1]
      have g0 : h2 38 0 = 0 := by rw [e2, am_u_s]
      have g6 : h2 56 (60 * k + i) = sh_cut (h1 55 k) v := by rw [e2, am_u_n (by omega), am_u_s]
      have gh : ∀ x j, ¬ (x = 56 ∧ j = 60 * k + i) → ¬ (x = 38 ∧ j = 0) → 11 ≤ x → h2 x j = h x j := fun x j u1 u2 u3 => (g x j u1 u2).trans (f x j (by omega) (by omega))
      have l5 : h1 55 k = h (3 + 2 * k) 0 := by
        rw [f 55 k (by omega) (by omega), ← hs.1, md_ln_p]
        have := (hs.2.2 hz.1).1
        omega
      have hcs : cl_S h1 := fun q q0 q1 => by
        unfold am_SO
        rw [f _ 0 (by omega) (by omega), f _ 1 (by omega) (by omega)]
        exact hJ.1.1.2.1 q q0 q1
      refine ⟨rfl, lw_JJ (h1 := h1) (cl_I_g (fun x j u => f x j (by omega) (by omega)) (cl_G_s (fun x j u => f x j (by omega) (by omega)) hcs hJ.1.1) hJ.1) (fun x j u => g x j (by omega) (by omega)) ⟨lw_f9 hJ.2 (fun x j u1 u2 => f x j (by omega) u2) (fun j u => gh 38 j (by omega) (by omega) (by omega)) f9 g0, lw_f1 hJ.2 (fun x j u => f x j (by omega) (by omega)) (fun x j u => gh x j (by omega) (by omega) (by omega)), lw_f2 hJ.2 (fun x j u => f x j (by omega) (by omega)) (fun x j u => gh x j (by omega) (by omega) (by omega)), fun q q0 q1 => ?_⟩⟩
      by_cases u : q = k
      · rw [u]
        have e0 : ∀ j, h1 (3 + 2 * k) j = h (3 + 2 * k) j := fun j => f _ j (by omega) (by omega)
        refine ⟨?_, ?_, fun w => ⟨?_, fun j j0 j1 => ?_⟩⟩
        · rw [e0, ← hs.1]
          unfold md_ln
          rw [gh 54 k (by omega) (by omega) (by omega), gh 55 k (by omega) (by omega) (by omega)]
        · rw [gh 54 k (by omega) (by omega) (by omega), gh 55 k (by omega) (by omega) (by omega)]; exact hs.2.1
        · rw [gh 54 k (by omega) (by omega) (by omega), e0]; exact (hs.2.2 hz.1).1
        · rw [e0] at j1
          by_cases t : j = i
          · rw [t, g6, fi, l5]
          · rw [gh 56 _ (by omega) (by omega) (by omega), f _ j (by omega) (by omega)]; exact (hs.2.2 hz.1).2 j j0 j1
      · exact lw_S_o (hJ.1.1.2.1 q q0 q1).1.2 (fun j => f _ j (by omega) (by omega)) (fun j => f _ j (by omega) (by omega)) ⟨gh 54 q (by omega) (by omega) (by omega), gh 55 q (by omega) (by omega) (by omega)⟩ (fun t t0 t1 => gh 56 _ (by omega) (by omega) (by omega)) (hJ.2.2.2.2 q q0 q1)
theorem jt_cell (hJ : lw_J ρ h A L S K) {k i l : Int} {r r' : Option am_V}
    (q1 : (¬ ((0 ≤ k ∧ k < 4) ∧ 0 ≤ l ∧ l < 3) ∧ r = some (am_L (-9223372036854775808)) ∧ h1 = am_u h 1 9 0) ∨ (((0 ≤ k ∧ k < 4) ∧ 0 ≤ l ∧ l < 3) ∧ h1 = am_u h 1 9 (sh_as (h (3 + 2 * k) 0) (h (3 + 2 * k) 1) l i 1) ∧ r = some (am_L (if sh_as (h (3 + 2 * k) 0) (h (3 + 2 * k) 1) l i 1 = 0 then h (3 + 2 * k + 1) i else -9223372036854775808))))
    (f38 : ∀ x j, 38 ≤ x → x ≤ 57 → h1 x j = h x j)
    (q2 : (¬ ((0 ≤ k ∧ k < 4) ∧ 0 ≤ l ∧ l < 3) ∧ r' = some (am_L (-9223372036854775808)) ∧ h2 = am_u h1 38 0 0) ∨ (((0 ≤ k ∧ k < 4) ∧ 0 ≤ l ∧ l < 3) ∧ h2 = am_u h1 38 0 (sh_as (md_ln h1 k) (h1 54 k) l i 1) ∧ r' = some (am_L (if sh_as (md_ln h1 k) (h1 54 k) l i 1 = 0 then h1 56 (60 * k + i) else -9223372036854775808)))) : r = r' ∧ lw_J ρ h2 A L S K := by
  have m := lw_keepM hJ f38
  rcases q1 with ⟨z, rfl, e1⟩ | ⟨z, e1, rfl⟩
  · rcases q2 with ⟨y, rfl, e2⟩ | ⟨y, _⟩
    · exact ⟨rfl, lw_sc9 hJ e1 e2⟩
    · exact absurd y z
  · have ef : sh_as (md_ln h1 k) (h1 54 k) l i 1 = sh_as (h (3 + 2 * k) 0) (h (3 + 2 * k) 1) l i 1 := lw_fl m z.1
    rw [ef] at q2
    rcases q2 with ⟨y, _⟩ | ⟨y, e2, rfl⟩
    · exact absurd z y
    · refine ⟨?_, lw_sc9 hJ e1 e2⟩
      by_cases u : sh_as (h (3 + 2 * k) 0) (h (3 + 2 * k) 1) l i 1 = 0
      · have hz := sh_as0 u
        rw [if_pos u, if_pos u, ((m.2.2.2 k z.1.1 z.1.2).2.2 hz.1).2 i (by omega) (by omega)]
      · rw [if_neg u, if_neg u]
theorem jt_copy (hJ : lw_J ρ h A L S K) {k i o j n : Int} {r r' : Option am_V}
    (q1 : (¬ ((0 ≤ k ∧ k < 4) ∧ 0 ≤ o ∧ o < 4) ∧ r = some (am_I (-1)) ∧ h1 = am_u h 1 9 0) ∨ (((0 ≤ k ∧ k < 4) ∧ 0 ≤ o ∧ o < 4) ∧ o_cf (h (3 + 2 * k) 0) (h (3 + 2 * k) 1) (h (3 + 2 * o) 0) (h (3 + 2 * o) 1) i j n ≠ 0 ∧ h1 = am_u h 1 9 (o_cf (h (3 + 2 * k) 0) (h (3 + 2 * k) 1) (h (3 + 2 * o) 0) (h (3 + 2 * o) 1) i j n) ∧ r = some (am_I (-10 - o_cf (h (3 + 2 * k) 0) (h (3 + 2 * k) 1) (h (3 + 2 * o) 0) (h (3 + 2 * o) 1) i j n))) ∨
    (((0 ≤ k ∧ k < 4) ∧ 0 ≤ o ∧ o < 4) ∧ o_cf (h (3 + 2 * k) 0) (h (3 + 2 * k) 1) (h (3 + 2 * o) 0) (h (3 + 2 * o) 1) i j n = 0 ∧ h1 = am_cpy (am_u h 1 9 0) (3 + 2 * k + 1) i (3 + 2 * o + 1) j n ∧ r = some (am_I n)))
    (f38 : ∀ x j, 38 ≤ x → x ≤ 57 → h1 x j = h x j)
    (q2 : (¬ ((0 ≤ k ∧ k < 4) ∧ 0 ≤ o ∧ o < 4) ∧ r' = some (am_I (-1)) ∧ h2 = am_u h1 38 0 0) ∨ (((0 ≤ k ∧ k < 4) ∧ 0 ≤ o ∧ o < 4) ∧ o_cf (md_ln h1 k) (h1 54 k) (md_ln h1 o) (h1 54 o) i j n ≠ 0 ∧ h2 = am_u h1 38 0 (o_cf (md_ln h1 k) (h1 54 k) (md_ln h1 o) (h1 54 o) i j n) ∧ r' = some (am_I (-10 - o_cf (md_ln h1 k) (h1 54 k) (md_ln h1 o) (h1 54 o) i j n))) ∨
    (((0 ≤ k ∧ k < 4) ∧ 0 ≤ o ∧ o < 4) ∧ o_cf (md_ln h1 k) (h1 54 k) (md_ln h1 o) (h1 54 o) i j n = 0 ∧ r' = some (am_I n) ∧ ∃ h3, h2 = am_u h3 38 0 0 ∧ am_fr [56, 57] h1 h3 ∧ ∀ y, h3 56 y = if 60 * o + j ≤ y ∧ y < 60 * o + j + n then h1 56 (60 * k + i + (y - (60 * o + j))) else h1 56 y)) : r = r' ∧ lw_J ρ h2 A L S K := by
  have m := lw_keepM hJ f38
  rcases q1 with ⟨z, rfl, e1⟩ | ⟨z, z2, e1, rfl⟩ | ⟨z, z2, e1, rfl⟩
  · rcases q2 with ⟨y, rfl, e2⟩ | ⟨y, _⟩ | ⟨y, _⟩
    · exact ⟨rfl, lw_sc9 hJ e1 e2⟩
    · exact absurd y z
    · exact absurd y z
  · rw [lw_cf m z.1 z.2] at q2
    rcases q2 with ⟨y, _⟩ | ⟨y, y2, e2, rfl⟩ | ⟨y, y2, _⟩
    · exact absurd z y
    · exact ⟨rfl, lw_sc9 hJ e1 e2⟩
    · exact absurd y2 z2
  · rw [lw_cf m z.1 z.2] at q2
    rcases q2 with ⟨y, _⟩ | ⟨y, y2, _⟩ | ⟨y, y2, rfl, h3, e2, d1, d2⟩
    · exact absurd z y
    · exact absurd z2 y2
    · have hz := o_cf0 z2
      have hs := hJ.2.2.2.2 k z.1.1 z.1.2
      have ht := hJ.2.2.2.2 o z.2.1 z.2.2
      have hO := hJ.1.1.2.1 k z.1.1 z.1.2
      have hT := hJ.1.1.2.1 o z.2.1 z.2.2
      unfold am_SO at hO hT
      have f : ∀ x t, ¬ (x = 3 + 2 * o + 1 ∧ j ≤ t ∧ t < j + n) → ¬ (x = 1 ∧ t = 9) → h1 x t = h x t := fun x t u1 u2 => by
        rw [e1]
        unfold am_cpy
        rw [if_neg u1, am_u_n u2]
      have f9 : h1 1 9 = 0 := by
        rw [e1]
        unfold am_cpy
        rw [if_neg (by omega), am_u_s]
      have fi : ∀ t, j ≤ t → t < j + n → h1 (3 + 2 * o + 1) t = h (3 + 2 * k + 1) (i + (t - j)) := fun t t0 t1 => by
        rw [e1]
        unfold am_cpy
        rw [if_pos ⟨rfl, t0, t1⟩, am_u_n (by omega)]
      have g : ∀ x t, x ≠ 56 → x ≠ 57 → ¬ (x = 38 ∧ t = 0) → h2 x t = h1 x t := fun x t u1 u2 u3 => by rw [e2, am_u_n u3, d1 x t (by simp; omega)]
      have g0 : h2 38 0 = 0 := by rw [e2, am_u_s]
      have g6 : ∀ y, h2 56 y = if 60 * o + j ≤ y ∧ y < 60 * o + j + n then h 56 (60 * k + i + (y - (60 * o + j))) else h 56 y := fun y => by rw [e2, am_u_n (by omega), d2 y, f 56 _ (by omega) (by omega), f 56 y (by omega) (by omega)]
      have gh : ∀ x t, x ≠ 56 → x ≠ 57 → ¬ (x = 38 ∧ t = 0) → 11 ≤ x → h2 x t = h x t := fun x t u1 u2 u3 u4 => (g x t u1 u2 u3).trans (f x t (by omega) (by omega))
      have e0 : ∀ q t, 0 ≤ q → q < 4 → h1 (3 + 2 * q) t = h (3 + 2 * q) t := fun q t q0 q1 => f _ t (by omega) (by omega)
      have hcs : cl_S h1 := fun q q0 q1 => by
        unfold am_SO
        rw [e0 q 0 q0 q1, e0 q 1 q0 q1]
        exact hJ.1.1.2.1 q q0 q1
      refine ⟨rfl, lw_JJ (h1 := h1) (cl_I_g (fun x t u => f x t (by omega) (by omega)) (cl_G_s (fun x t u => f x t (by omega) (by omega)) hcs hJ.1.1) hJ.1) (fun x t u => g x t (by omega) (by omega) (by omega)) ⟨lw_f9 hJ.2 (fun x t u1 u2 => f x t (by omega) u2) (fun t u => gh 38 t (by omega) (by omega) (by omega) (by omega)) f9 g0, lw_f1 hJ.2 (fun x t u => f x t (by omega) (by omega)) (fun x t u => gh x t (by omega) (by omega) (by omega) (by omega)), lw_f2 hJ.2 (fun x t u => f x t (by omega) (by omega)) (fun x t u => gh x t (by omega) (by omega) (by omega) (by omega)), fun q q0 q1 => ?_⟩⟩
      by_cases u : q = o
      · rw [u]
        refine ⟨?_, ?_, fun w => ⟨?_, fun t t0 t1 => ?_⟩⟩
        · rw [e0 o 0 z.2.1 z.2.2, ← ht.1]
          unfold md_ln
          rw [gh 54 o (by omega) (by omega) (by omega) (by omega), gh 55 o (by omega) (by omega) (by omega) (by omega)]
        · rw [gh 54 o (by omega) (by omega) (by omega) (by omega), gh 55 o (by omega) (by omega) (by omega) (by omega)]; exact ht.2.1
        · rw [gh 54 o (by omega) (by omega) (by omega) (by omega), e0 o 1 z.2.1 z.2.2]; exact (ht.2.2 hz.2.1).1
        · rw [e0 o 1 z.2.1 z.2.2] at t1
          rw [g6]
          by_cases v : j ≤ t ∧ t < j + n
          · rw [if_pos (by omega), fi t v.1 v.2, ← (hs.2.2 hz.1).2 (i + (t - j)) (by omega) (by omega)]
            congr 1
            omega
          · rw [if_neg (by omega), f _ t (by omega) (by omega)]; exact (ht.2.2 hz.2.1).2 t t0 t1
      · exact lw_S_o (hJ.1.1.2.1 q q0 q1).1.2 (fun t => e0 q t q0 q1) (fun t => f _ t (by omega) (by omega)) ⟨gh 54 q (by omega) (by omega) (by omega) (by omega), gh 55 q (by omega) (by omega) (by omega) (by omega)⟩ (fun t t0 t1 => by rw [g6, if_neg (by omega)]) (hJ.2.2.2.2 q q0 q1)
end JT
