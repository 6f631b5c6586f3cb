/-! class and model side by side: what the model's cells (in h1) tell of the class's (in h) -/
def lw_S (h h1 : am_H) (k : Int) : Prop := md_ln h1 k = h (3 + 2 * k) 0 ∧ ((-1 ≤ h1 54 k ∧ h1 54 k ≤ 60) ∧ 0 ≤ h1 55 k ∧ h1 55 k ≤ 2) ∧ (h (3 + 2 * k) 0 ≠ -1 → h1 54 k = h (3 + 2 * k) 1 ∧ ∀ i, 0 ≤ i → i < h (3 + 2 * k) 1 → h1 56 (60 * k + i) = h (3 + 2 * k + 1) i)
def lw_M (h h1 : am_H) : Prop := (h1 38 1 = h 11 1 ∧ h1 38 2 = h 11 0 ∧ h1 38 3 = h 1 7 ∧ h1 38 31 = h 1 8 ∧ h1 38 0 = h 1 9 ∧ h1 38 23 = h 33 3) ∧ (∀ p, 0 ≤ p → p < h 11 1 → h1 39 p = h 12 p ∧ h1 40 p = h 13 p) ∧ (∀ k, 0 ≤ k → k < h 33 3 → h1 51 k = h 34 k ∧ h1 52 k = h 35 k ∧ h1 53 k = h 36 k) ∧ ∀ k, 0 ≤ k → k < 4 → lw_S h h1 k
def lw_vm (x j : Int) : Prop := (39 ≤ x ∧ x ≤ 40) ∨ (51 ≤ x ∧ x ≤ 56) ∨ (x = 38 ∧ (j = 0 ∨ j = 1 ∨ j = 2 ∨ j = 3 ∨ j = 23 ∨ j = 31))
def lw_vc (x j : Int) : Prop := (3 ≤ x ∧ x ≤ 13) ∨ (33 ≤ x ∧ x ≤ 36) ∨ (x = 1 ∧ (j = 7 ∨ j = 8 ∨ j = 9))
theorem lw_S_m {h h1 h2 : am_H} {k : Int} (f : ∀ x j, (54 ≤ x ∧ x ≤ 56) → h2 x j = h1 x j) (a : lw_S h h1 k) : lw_S h h2 k := by
  have e : ∀ x, (54 ≤ x ∧ x ≤ 56) → h2 x = h1 x := fun x z => funext fun j => f x j z
  unfold lw_S md_ln at a ⊢
  rw [e 54 (by omega), e 55 (by omega), e 56 (by omega)]
  exact a
theorem lw_S_c {h h' h1 : am_H} {k : Int} (k0 : 0 ≤ k) (k1 : k < 4) (f : ∀ x j, (3 ≤ x ∧ x ≤ 10) → h' x j = h x j) (a : lw_S h h1 k) : lw_S h' h1 k := by
  have e : ∀ x, (3 ≤ x ∧ x ≤ 10) → h' x = h x := fun x z => funext fun j => f x j z
  unfold lw_S at a ⊢
  rw [e (3 + 2 * k) (by omega), e (3 + 2 * k + 1) (by omega)]
  exact a
theorem lw_M_m {h h1 h2 : am_H} (f : ∀ x j, lw_vm x j → h2 x j = h1 x j) (a : lw_M h h1) : lw_M h h2 := by
  unfold lw_vm at f
  obtain ⟨⟨a1, a2, a3, a4, a5, a6⟩, b, c, d⟩ := a
  refine ⟨⟨?_, ?_, ?_, ?_, ?_, ?_⟩, fun p p0 p1 => ?_, fun k k0 k1 => ?_, fun k k0 k1 => lw_S_m (fun x j z => f x j (by omega)) (d k k0 k1)⟩
  · rw [f 38 1 (by omega)]; exact a1
  · rw [f 38 2 (by omega)]; exact a2
  · rw [f 38 3 (by omega)]; exact a3
  · rw [f 38 31 (by omega)]; exact a4
  · rw [f 38 0 (by omega)]; exact a5
  · rw [f 38 23 (by omega)]; exact a6
  · rw [f 39 p (by omega), f 40 p (by omega)]; exact b p p0 p1
  · rw [f 51 k (by omega), f 52 k (by omega), f 53 k (by omega)]; exact c k k0 k1
theorem lw_M_c {h h' h1 : am_H} (f : ∀ x j, lw_vc x j → h' x j = h x j) (a : lw_M h h1) : lw_M h' h1 := by
  unfold lw_vc at f
  obtain ⟨⟨a1, a2, a3, a4, a5, a6⟩, b, c, d⟩ := a
  have e1 : h' 11 1 = h 11 1 := f 11 1 (by omega)
  have e2 : h' 33 3 = h 33 3 := f 33 3 (by omega)
  refine ⟨⟨?_, ?_, ?_, ?_, ?_, ?_⟩, fun p p0 p1 => ?_, fun k k0 k1 => ?_, fun k k0 k1 => lw_S_c k0 k1 (fun x j z => f x j (by omega)) (d k k0 k1)⟩
  · rw [e1]; exact a1
  · rw [f 11 0 (by omega)]; exact a2
  · rw [f 1 7 (by omega)]; exact a3
  · rw [f 1 8 (by omega)]; exact a4
  · rw [f 1 9 (by omega)]; exact a5
  · rw [e2]; exact a6
  · rw [e1] at p1
    rw [f 12 p (by omega), f 13 p (by omega)]; exact b p p0 p1
  · rw [e2] at k1
    rw [f 34 k (by omega), f 35 k (by omega), f 36 k (by omega)]; exact c k k0 k1
/-- what the model's side is in order for -/
theorem lw_md {h h1 : am_H} (hG : cl_G h) (a : lw_M h h1) : md_R h1 ∧ md_O h1 ∧ md_S h1 := by
  obtain ⟨⟨a1, a2, a3, a4, a5, a6⟩, b, c, d⟩ := a
  obtain ⟨g1, g2, g3⟩ := hG
  refine ⟨?_, ?_, fun k k0 k1 => (d k k0 k1).2.1⟩
  · rcases g1 with z | ⟨⟨o1, o2, o3, o4, o5⟩, z2⟩
    · exact Or.inl ⟨by omega, by omega⟩
    · refine Or.inr ⟨⟨by omega, by omega⟩, fun p p0 p1 => ?_, fun p p0 p1 => ?_⟩
      · rw [a1] at p1
        rw [(b p p0 p1).2, a2]; exact o5 p p0 p1
      · rw [a1] at p1
        rw [(b p p0 p1).1]; exact z2 p p0 p1
  · obtain ⟨r1, r2, r3⟩ := g3
    refine ⟨by omega, by omega, fun k k0 k1 => ?_⟩
    rw [a6] at k1
    have z := r3 k k0 k1
    have y := c k k0 k1
    omega
theorem lw_nxt_eq {P B : Int} {kd kd' : Int → Int} (hk : mt_eq P kd kd') : nxt P B kd = nxt P B kd' := by
  funext c
  unfold nxt
  refine mt_cd_eq (fun p p0 p1 => ?_)
  unfold mt_st
  rw [hk p p0 (by omega)]
theorem lw_nx {h h1 : am_H} (a : lw_M h h1) : md_nx h1 = o_nx h := by
  unfold md_nx o_nx
  rw [a.1.1, a.1.2.1]
  exact lw_nxt_eq (fun p p0 p1 => (a.2.1 p p0 p1).1)
theorem lw_N {h h1 : am_H} (a : lw_M h h1) : md_N h1 = o_N h := by
  unfold md_N o_N
  rw [a.1.1, a.1.2.1]
theorem lw_row {h h1 : am_H} (a : lw_M h h1) : md_row h1 = o_row h := by
  unfold md_row o_row
  rw [a.1.1, a.1.2.1]
  exact mt_cd_eq (fun p p0 p1 => (a.2.1 p p0 (by omega)).2)
theorem lw_ln {h h1 : am_H} (a : lw_M h h1) {k : Int} (hk : 0 ≤ k ∧ k < 4) : md_ln h1 k = h (3 + 2 * k) 0 ∧ (h (3 + 2 * k) 0 ≠ -1 → h1 54 k = h (3 + 2 * k) 1) := ⟨(a.2.2.2 k hk.1 hk.2).1, fun z => ((a.2.2.2 k hk.1 hk.2).2.2 z).1⟩
theorem lw_of {h h1 : am_H} (a : lw_M h h1) {k i n : Int} (hk : 0 ≤ k ∧ k < 4) : sh_of (md_ln h1 k) (h1 54 k) i n = sh_of (h (3 + 2 * k) 0) (h (3 + 2 * k) 1) i n := by
  obtain ⟨e1, e2⟩ := lw_ln a hk
  rw [e1]
  by_cases z : h (3 + 2 * k) 0 = -1
  · unfold sh_of
    rw [if_pos z, if_pos z]
  · rw [e2 z]
theorem lw_fl {h h1 : am_H} (a : lw_M h h1) {k l i n : Int} (hk : 0 ≤ k ∧ k < 4) : md_fl h1 k l i n = o_fl h k l i n := by
  unfold md_fl o_fl sh_as
  rw [lw_of a hk, (lw_ln a hk).1]
theorem lw_cf {h h1 : am_H} (a : lw_M h h1) {k o i j n : Int} (hk : 0 ≤ k ∧ k < 4) (ho : 0 ≤ o ∧ o < 4) : o_cf (md_ln h1 k) (h1 54 k) (md_ln h1 o) (h1 54 o) i j n = o_cf (h (3 + 2 * k) 0) (h (3 + 2 * k) 1) (h (3 + 2 * o) 0) (h (3 + 2 * o) 1) i j n := by
  obtain ⟨e1, e2⟩ := lw_ln a hk
  obtain ⟨f1, f2⟩ := lw_ln a ho
  rw [e1, f1]
  by_cases z : h (3 + 2 * k) 0 = -1 ∨ h (3 + 2 * o) 0 = -1
  · unfold o_cf
    rw [if_pos z, if_pos z]
  · rw [e2 (fun y => z (Or.inl y)), f2 (fun y => z (Or.inr y))]
/-- the cells that a call takes -/
theorem lw_cells {h h1 : am_H} (a : lw_M h h1) {k l i n : Int} (hk : 0 ≤ k ∧ k < 4) (hz : o_fl h k l i n = 0) : ∀ t, 0 ≤ t → t < n → md_c h1 k i t = o_c h k i t := fun t t0 t1 => by
  have z := sh_as0 hz
  have y := ((a.2.2.2 k hk.1 hk.2).2.2 z.1).2 (i + t) (by omega) (by omega)
  unfold md_c o_c sh_at
  rw [if_pos (by omega), ← y]
  congr 1
  omega
def lw_J (ρ h : am_H) (A L S K : Int) : Prop := cl_I ρ h A L S K ∧ lw_M h h
/-- the class's call done, then the model's -/
theorem lw_JJ {ρ h1 h2 : am_H} {A L S K : Int} (hI : cl_I ρ h1 A L S K) (f : ∀ x j, ¬ (38 ≤ x ∧ x ≤ 57) → h2 x j = h1 x j) (a : lw_M h1 h2) : lw_J ρ h2 A L S K :=
  ⟨cl_I_fr (fun x j z => f x j (by omega)) hI, lw_M_c (fun x j z => f x j (by unfold lw_vc at z; omega)) a⟩
theorem md_fr_o {h h' : am_H} (q : md_fr h h') : ∀ x j, ¬ (38 ≤ x ∧ x ≤ 57) → h' x j = h x j := fun x j z => q.1 x j (by omega) (by omega) (by omega)
theorem md_fr_v {h h' : am_H} (q : md_fr h h') : ∀ x j, lw_vm x j → h' x j = h x j := fun x j z => by
  unfold lw_vm at z
  by_cases y : x = 38
  · rw [y]; exact q.2 j (by omega)
  · exact q.1 x j y (by omega) (by omega)
/-- a call that changes nothing on either side -/
theorem lw_keep {ρ ρ1 h h1 h2 : am_H} {A L S K A' L' S' K' : Int} (hJ : lw_J ρ h A L S K) (hI : cl_I ρ1 h1 A' L' S' K') (f : ∀ x j, (1 ≤ x ∧ x ≤ 13) ∨ (33 ≤ x ∧ x ≤ 36) ∨ (38 ≤ x ∧ x ≤ 57) → h1 x j = h x j) (q : md_fr h1 h2) : lw_J ρ1 h2 A' L' S' K' :=
  lw_JJ hI (md_fr_o q) (lw_M_m (md_fr_v q) (lw_M_c (fun x j z => f x j (by unfold lw_vc at z; omega)) (lw_M_m (fun x j z => f x j (by unfold lw_vm at z; omega)) hJ.2)))
theorem lw_keepM {ρ h h1 : am_H} {A L S K : Int} (hJ : lw_J ρ h A L S K) (f : ∀ x j, 38 ≤ x → x ≤ 57 → h1 x j = h x j) : lw_M h h1 := lw_M_m (fun x j z => f x j (by unfold lw_vm at z; omega) (by unfold lw_vm at z; omega)) hJ.2
/-- a call that changes the fault alone, to the same on both sides -/
theorem lw_keepF {ρ ρ1 h h1 h2 : am_H} {A L S K A' L' S' K' f : Int} (hJ : lw_J ρ h A L S K) (hI : cl_I ρ1 h1 A' L' S' K') (c : ∀ x j, (1 ≤ x ∧ x ≤ 13) ∨ (33 ≤ x ∧ x ≤ 36) ∨ (38 ≤ x ∧ x ≤ 57) → ¬ (x = 1 ∧ j = 9) → h1 x j = h x j) (c9 : h1 1 9 = f) (q : md_frF f h1 h2) : lw_J ρ1 h2 A' L' S' K' := by
  obtain ⟨q1, q2, q3, q4⟩ := q
  refine lw_JJ hI (fun x j z => q1 x j (by omega) (by omega) (by omega)) ?_
  obtain ⟨⟨a1, a2, a3, a4, a5, a6⟩, b, cc, d⟩ := hJ.2
  have e11 : ∀ j, h1 11 j = h 11 j := fun j => c 11 j (by omega) (by omega)
  have e33 : h1 33 3 = h 33 3 := c 33 3 (by omega) (by omega)
  have e38 : ∀ j, j = 1 ∨ j = 2 ∨ j = 3 ∨ j = 23 ∨ j = 31 → h2 38 j = h 38 j := fun j z => (q3 j z).trans (c 38 j (by omega) (by omega))
  refine ⟨⟨?_, ?_, ?_, ?_, ?_, ?_⟩, fun p p0 p1 => ?_, fun k k0 k1 => ?_, fun k k0 k1 => ?_⟩
  · rw [e38 1 (by omega), e11]; exact a1
  · rw [e38 2 (by omega), e11]; exact a2
  · rw [e38 3 (by omega), c 1 7 (by omega) (by omega)]; exact a3
  · rw [e38 31 (by omega), c 1 8 (by omega) (by omega)]; exact a4
  · rw [q4, c9]
  · rw [e38 23 (by omega), e33]; exact a6
  · rw [e11] at p1
    rw [q1 39 p (by omega) (by omega) (by omega), q2 p p0 (by rw [c 38 1 (by omega) (by omega), a1]; exact p1), c 39 p (by omega) (by omega), c 40 p (by omega) (by omega), c 12 p (by omega) (by omega), c 13 p (by omega) (by omega)]
    exact b p p0 p1
  · rw [e33] at k1
    rw [q1 51 k (by omega) (by omega) (by omega), q1 52 k (by omega) (by omega) (by omega), q1 53 k (by omega) (by omega) (by omega), c 51 k (by omega) (by omega), c 52 k (by omega) (by omega), c 53 k (by omega) (by omega), c 34 k (by omega) (by omega), c 35 k (by omega) (by omega), c 36 k (by omega) (by omega)]
    exact cc k k0 k1
  · exact lw_S_c k0 k1 (fun x j z => c x j (by omega) (by omega)) (lw_S_m (fun x j z => (q1 x j (by omega) (by omega) (by omega)).trans (c x j (by omega) (by omega))) (d k k0 k1))
