/-! both calls done: ring, questions; the room that is left -/
section JT
variable {ρ ρ1 h h1 h2 : am_H} {A L S K : Int}
theorem jt_ring (hJ : lw_J ρ h A L S K) {k l i n : Int} {r r' : Option am_V} (hI1 : cl_I ρ h1 A L S K)
    (q1 : (¬ (0 ≤ k ∧ k < 4) ∧ r = some (am_I (-1)) ∧ h1 = am_u h 1 9 0) ∨ ((0 ≤ k ∧ k < 4) ∧ ¬ (0 ≤ l ∧ l < 3) ∧ r = some (am_I (-2)) ∧ h1 = am_u h 1 9 0) ∨ ((0 ≤ k ∧ k < 4) ∧ (0 ≤ l ∧ l < 3) ∧ o_fl h k l i n ≠ 0 ∧ r = some (am_I (-10 - o_fl h k l i n)) ∧ h1 = am_u h 1 9 (o_fl h k l i n)) ∨
    ((0 ≤ k ∧ k < 4) ∧ (0 ≤ l ∧ l < 3) ∧ o_fl h k l i n = 0 ∧ ∃ v, tx_ff (o_c h k i) n v ∧ v ≠ -9 ∧ r = some (am_I (-100 - v)) ∧ h1 = am_u h 1 9 0) ∨
    ((0 ≤ k ∧ k < 4) ∧ (0 ≤ l ∧ l < 3) ∧ o_fl h k l i n = 0 ∧ tx_ff (o_c h k i) n (-9) ∧ r = some (am_I (o_P n)) ∧ am_fr [1, 11, 12, 13, 19, 29, 33] h h1 ∧ h1 1 7 = 0 ∧ h1 1 8 = h 1 8 ∧ h1 1 9 = 0 ∧ h1 33 3 = 0 ∧ h1 11 0 = o_c h k i 1 - 48 ∧ h1 11 1 = o_P n ∧ ∀ p, 0 ≤ p → p < o_P n → h1 12 p = tx_kd (o_c h k i (2 + 3 * p + 1)) ∧ h1 13 p = o_c h k i (2 + 3 * p + 2) - 48))
    (f38 : ∀ x j, 38 ≤ x → x ≤ 57 → h1 x j = h x j)
    (q2 : (¬ (0 ≤ k ∧ k < 4) ∧ r' = some (am_I (-1)) ∧ h2 = am_u h1 38 0 0) ∨ ((0 ≤ k ∧ k < 4) ∧ ¬ (0 ≤ l ∧ l < 3) ∧ r' = some (am_I (-2)) ∧ h2 = am_u h1 38 0 0) ∨ ((0 ≤ k ∧ k < 4) ∧ (0 ≤ l ∧ l < 3) ∧ md_fl h1 k l i n ≠ 0 ∧ r' = some (am_I (-10 - md_fl h1 k l i n)) ∧ h2 = am_u h1 38 0 (md_fl h1 k l i n)) ∨
    ((0 ≤ k ∧ k < 4) ∧ (0 ≤ l ∧ l < 3) ∧ md_fl h1 k l i n = 0 ∧ ∃ v, tx_ff (md_c h1 k i) n v ∧ v ≠ -9 ∧ r' = some (am_I (-100 - v)) ∧ md_fr (am_u h1 38 0 0) h2) ∨
    ((0 ≤ k ∧ k < 4) ∧ (0 ≤ l ∧ l < 3) ∧ md_fl h1 k l i n = 0 ∧ tx_ff (md_c h1 k i) n (-9) ∧ r' = some (am_I (o_P n)) ∧ am_fr [38, 39, 40, 41, 42] h1 h2 ∧ h2 38 0 = 0 ∧ h2 38 1 = o_P n ∧ h2 38 2 = md_c h1 k i 1 - 48 ∧ h2 38 3 = 0 ∧ h2 38 23 = 0 ∧ h2 38 31 = h1 38 31 ∧ ∀ p, 0 ≤ p → p < o_P n → h2 39 p = tx_kd (md_c h1 k i (2 + 3 * p + 1)) ∧ h2 40 p = md_c h1 k i (2 + 3 * p + 2) - 48)) : r = r' ∧ lw_J ρ h2 A L S K := by
  have m := lw_keepM hJ f38
  by_cases hk : 0 ≤ k ∧ k < 4
  · rw [lw_fl m hk] at q2
    rcases q1 with ⟨z, _⟩ | ⟨z, z2, rfl, e1⟩ | ⟨z, z2, z3, rfl, e1⟩ | ⟨z, z2, z3, v, z4, z5, rfl, e1⟩ | ⟨z, z2, z3, z4, rfl, c1, c2, c3, c4, c5, c6, c7, c8⟩
    · exact absurd hk z
    · rcases q2 with ⟨y, _⟩ | ⟨y, y2, rfl, e2⟩ | ⟨y, y2, _⟩ | ⟨y, y2, _⟩ | ⟨y, y2, _⟩
      · exact absurd hk y
      · exact ⟨rfl, lw_sc9 hJ e1 e2⟩
      · exact absurd y2 z2
      · exact absurd y2 z2
      · exact absurd y2 z2
    · rcases q2 with ⟨y, _⟩ | ⟨y, y2, _⟩ | ⟨y, y2, y3, rfl, e2⟩ | ⟨y, y2, y3, _⟩ | ⟨y, y2, y3, _⟩
      · exact absurd hk y
      · exact absurd z2 y2
      · exact ⟨rfl, lw_sc9 hJ e1 e2⟩
      · exact absurd y3 z3
      · exact absurd y3 z3
    · have hc := lw_cells m hk z3
      rcases q2 with ⟨y, _⟩ | ⟨y, y2, _⟩ | ⟨y, y2, y3, _⟩ | ⟨y, y2, y3, w, y4, y5, rfl, e2⟩ | ⟨y, y2, y3, y4, _⟩
      · exact absurd hk y
      · exact absurd z2 y2
      · exact absurd z3 y3
      · have evw := tx_ff_uniq z4 (tx_ff_c hc y4)
        have J3 : lw_J ρ (am_u h1 38 0 0) A L S K := lw_sc9 hJ e1 rfl
        exact ⟨by rw [evw], lw_keep J3 J3.1 (fun _ _ _ => rfl) e2⟩
      · exact absurd (tx_ff_uniq z4 (tx_ff_c hc y4)) z5
    · have hc := lw_cells m hk z3
      rcases q2 with ⟨y, _⟩ | ⟨y, y2, _⟩ | ⟨y, y2, y3, _⟩ | ⟨y, y2, y3, w, y4, y5, _⟩ | ⟨y, y2, y3, y4, rfl, d1, d2, d3, d4, d5, d6, d7, d8⟩
      · exact absurd hk y
      · exact absurd z2 y2
      · exact absurd z3 y3
      · exact absurd (tx_ff_uniq z4 (tx_ff_c hc y4)).symm y5
      · obtain ⟨t1, t2, t3, t4⟩ := tx_ring z4
        have g : ∀ x j, ¬ (38 ≤ x ∧ x ≤ 42) → h2 x j = h1 x j := fun x j u => d1 x j (by simp; omega)
        have f : ∀ x j, 3 ≤ x ∧ x ≤ 10 → h1 x j = h x j := fun x j u => c1 x j (by simp; omega)
        refine ⟨rfl, lw_JJ (h1 := h1) hI1 (fun x j u => g x j (by omega)) ⟨⟨?_, ?_, ?_, ?_, ?_, ?_⟩, fun p p0 p1 => ?_, fun q q0 q1 => ?_, lw_f3 hJ.2 f (fun x j u => (g x j (by omega)).trans (f38 x j (by omega) (by omega)))⟩⟩
        · rw [d3, c7]
        · rw [d4, c6, hc 1 (by omega) (by omega)]
        · rw [d5, c2]
        · rw [d7, c3, f38 38 31 (by omega) (by omega)]; exact hJ.2.1.2.2.2.1
        · rw [d2, c4]
        · rw [d6, c5]
        · rw [c7] at p1
          rw [(d8 p p0 p1).1, (d8 p p0 p1).2, (c8 p p0 p1).1, (c8 p p0 p1).2, hc _ (by omega) (by omega), hc _ (by omega) (by omega)]
          exact ⟨rfl, rfl⟩
        · omega
  · rcases q1 with ⟨z, rfl, e1⟩ | ⟨z, _⟩ | ⟨z, _⟩ | ⟨z, _⟩ | ⟨z, _⟩
    · rcases q2 with ⟨y, rfl, e2⟩ | ⟨y, _⟩ | ⟨y, _⟩ | ⟨y, _⟩ | ⟨y, _⟩
      · exact ⟨rfl, lw_sc9 hJ e1 e2⟩
      · exact absurd y hk
      · exact absurd y hk
      · exact absurd y hk
      · exact absurd y hk
    · exact absurd z hk
    · exact absurd z hk
    · exact absurd z hk
    · exact absurd z hk
end JT
/-! the counts that there are -/
def lw_cs : List Int := [4, 8, 16, 32, 9, 27, 81, 243, 64, 256, 1024, 25, 125, 625, 3125, 36, 216, 1296, 7776]
def lw_ph (L : Int) : Nat := (lw_cs.filter (fun c => decide (L < c))).length
theorem lw_fl_mono {L N : Int} (h : L ≤ N) : ∀ l : List Int, (l.filter (fun c => decide (N < c))).length ≤ (l.filter (fun c => decide (L < c))).length
  | [] => Nat.le_refl _
  | a :: t => by
    have ih := lw_fl_mono h t
    by_cases z : N < a
    · have y : L < a := by omega
      simp [z, y, ih]
    · by_cases y : L < a
      · simp [z, y]; omega
      · simp [z, y, ih]
theorem lw_fl_lt {L N : Int} (h : L < N) : ∀ l : List Int, N ∈ l → (l.filter (fun c => decide (N < c))).length + 1 ≤ (l.filter (fun c => decide (L < c))).length
  | [], hm => absurd hm List.not_mem_nil
  | a :: t, hm => by
    rcases List.mem_cons.mp hm with rfl | hm
    · have := lw_fl_mono (Int.le_of_lt h) t
      simp [h]
      omega
    · have ih := lw_fl_lt h t hm
      by_cases z : N < a
      · have y : L < a := by omega
        simp [z, y]; omega
      · by_cases y : L < a
        · simp [z, y]; omega
        · simp [z, y]; omega
theorem lw_ph_lt {L N : Int} (hN : N ∈ lw_cs) (h : L < N) : lw_ph N + 1 ≤ lw_ph L := lw_fl_lt h lw_cs hN
theorem lw_cs_in {B P : Int} (hB : 2 ≤ B ∧ B ≤ 6) (hP : 2 ≤ P ∧ P ≤ 5) : mt_pw B P.toNat ∈ lw_cs := by
  rcases (show P = 2 ∨ P = 3 ∨ P = 4 ∨ P = 5 by omega) with rfl | rfl | rfl | rfl <;> rcases (show B = 2 ∨ B = 3 ∨ B = 4 ∨ B = 5 ∨ B = 6 by omega) with rfl | rfl | rfl | rfl | rfl <;> decide +kernel
theorem lw_cs_le : ∀ N ∈ lw_cs, 0 ≤ N ∧ N ≤ 7776 := by decide +kernel
def lw_pc (L K : Int) : Nat := 5 * lw_ph L + 3 * lw_ph K
def lw_ps (L K : Int) : Nat := 38880 * lw_ph L + 23328 * lw_ph K
theorem lw_h7 {ρ h : am_H} {A L S K : Int} (hI : cl_I ρ h A L S K) (hP : h 11 1 ≠ 0) : 0 ≤ h 19 7 := by
  rcases hI.2.2.1 with z | z
  · omega
  · have o := (cl_RO hI.1.1 hP).1
    have e := z.1.2.2.1
    have := mt_pw_pos o.2.2.1 (h 11 1).toNat
    omega
theorem lw_bud1 {h : am_H} {L K N : Int} {g : Prop} (h7 : g → 0 ≤ h 19 7) (hN : g → N ∈ lw_cs) : ∃ mc ms bc' bs' : Nat, cl_b g h L N mc ms ∧ mc + bc' ≤ lw_pc L K ∧ ms + bs' ≤ lw_ps L K ∧ ∀ L', gr_A L L' N mc ms → lw_pc L' K ≤ bc' ∧ lw_ps L' K ≤ bs' := by
  have none : cl_b g h L N 0 0 → ∃ mc ms bc' bs' : Nat, cl_b g h L N mc ms ∧ mc + bc' ≤ lw_pc L K ∧ ms + bs' ≤ lw_ps L K ∧ ∀ L', gr_A L L' N mc ms → lw_pc L' K ≤ bc' ∧ lw_ps L' K ≤ bs' := fun hb => by
    refine ⟨0, 0, lw_pc L K, lw_ps L K, hb, by omega, by omega, fun L' z => ?_⟩
    rcases z with ⟨z, _⟩ | ⟨_, _, z, _⟩
    · rw [z]; exact ⟨Nat.le_refl _, Nat.le_refl _⟩
    · omega
  by_cases hg : g
  · have h7' := h7 hg
    have hN' := hN hg
    by_cases z : h 19 7 = 0
    · by_cases y : L < N
      · have b := lw_cs_le N hN'
        have p := lw_ph_lt hN' y
        refine ⟨5, 0 + N.toNat + N.toNat + N.toNat + N.toNat + N.toNat, lw_pc N K, lw_ps N K, Or.inl ⟨hg, Or.inr (Or.inr ⟨z, y, rfl, rfl⟩)⟩, by unfold lw_pc; omega, by unfold lw_ps; omega, fun L' u => ?_⟩
        rcases u with ⟨_, u, _⟩ | ⟨_, u, _, _⟩
        · omega
        · rw [u]; exact ⟨Nat.le_refl _, Nat.le_refl _⟩
      · exact none (Or.inl ⟨hg, Or.inr (Or.inl ⟨z, by omega, rfl, rfl⟩)⟩)
    · exact none (Or.inl ⟨hg, Or.inl ⟨by omega, rfl, rfl⟩⟩)
  · exact none (Or.inr ⟨hg, rfl, rfl⟩)
theorem lw_budS {h : am_H} {K N t : Int} (hN : N ∈ lw_cs) : ∃ mc ms : Nat, sp_b h K N t mc ms ∧ ∃ p : Nat, mc + 3 * p ≤ 3 * lw_ph K ∧ ms + 23328 * p ≤ 23328 * lw_ph K ∧ ∀ K', gr_S K K' N mc ms → lw_ph K' ≤ p := by
  by_cases z : h 29 4 ≠ -9 ∧ h 29 4 ≤ t
  · refine ⟨0, 0, Or.inl ⟨z, rfl, rfl⟩, lw_ph K, by omega, by omega, fun K' u => ?_⟩
    rcases u with ⟨u, _⟩ | ⟨_, _, u, _⟩
    · rw [u]; exact Nat.le_refl _
    · omega
  · by_cases y : K < N
    · have b := lw_cs_le N hN
      have p := lw_ph_lt hN y
      refine ⟨3, 0 + N.toNat + N.toNat + N.toNat, Or.inr (Or.inr ⟨by omega, y, rfl, rfl⟩), lw_ph N, by omega, by omega, fun K' u => ?_⟩
      rcases u with ⟨_, u, _⟩ | ⟨_, u, _, _⟩
      · omega
      · rw [u]; exact Nat.le_refl _
    · refine ⟨0, 0, Or.inr (Or.inl ⟨by omega, by omega, rfl, rfl⟩), lw_ph K, by omega, by omega, fun K' u => ?_⟩
      rcases u with ⟨u, _⟩ | ⟨_, _, u, _⟩
      · rw [u]; exact Nat.le_refl _
      · omega
theorem lw_bud2 {h : am_H} {L K N t : Int} {g : Prop} (h7 : g → 0 ≤ h 19 7) (hN : g → N ∈ lw_cs) : ∃ mc ms mc1 ms1 mc2 ms2 bc' bs' : Nat, cl_b2 g h L K N t mc ms mc1 ms1 mc2 ms2 ∧ mc + bc' ≤ lw_pc L K ∧ ms + bs' ≤ lw_ps L K ∧ ∀ L' K', gr_A L L' N mc1 ms1 → gr_S K K' N mc2 ms2 → lw_pc L' K' ≤ bc' ∧ lw_ps L' K' ≤ bs' := by
  by_cases hg : g
  · have h7' := h7 hg
    have hN' := hN hg
    have b := lw_cs_le N hN'
    obtain ⟨mc2, ms2, s1, p, s2, s3, s4⟩ := lw_budS (h := h) (K := K) (t := t) hN'
    have none : wo_b h L N 0 0 → ∃ mc ms mc1 ms1 mc2 ms2 bc' bs' : Nat, cl_b2 g h L K N t mc ms mc1 ms1 mc2 ms2 ∧ mc + bc' ≤ lw_pc L K ∧ ms + bs' ≤ lw_ps L K ∧ ∀ L' K', gr_A L L' N mc1 ms1 → gr_S K K' N mc2 ms2 → lw_pc L' K' ≤ bc' ∧ lw_ps L' K' ≤ bs' := fun hb => by
      refine ⟨0 + mc2, 0 + ms2, 0, 0, mc2, ms2, 5 * lw_ph L + 3 * p, 38880 * lw_ph L + 23328 * p, Or.inl ⟨hg, hb, s1, rfl, rfl⟩, by unfold lw_pc; omega, by unfold lw_ps; omega, fun L' K' u v => ?_⟩
      have q := s4 K' v
      rcases u with ⟨u, _⟩ | ⟨_, _, u, _⟩
      · rw [u]
        unfold lw_pc lw_ps
        omega
      · omega
    by_cases z : h 19 7 = 0
    · by_cases y : L < N
      · have q := lw_ph_lt hN' y
        refine ⟨5 + mc2, (0 + N.toNat + N.toNat + N.toNat + N.toNat + N.toNat) + ms2, 5, 0 + N.toNat + N.toNat + N.toNat + N.toNat + N.toNat, mc2, ms2, 5 * lw_ph N + 3 * p, 38880 * lw_ph N + 23328 * p, Or.inl ⟨hg, Or.inr (Or.inr ⟨z, y, rfl, rfl⟩), s1, rfl, rfl⟩, by unfold lw_pc; omega, by unfold lw_ps; omega, fun L' K' u v => ?_⟩
        have q2 := s4 K' v
        rcases u with ⟨_, u, _⟩ | ⟨_, u, _, _⟩
        · omega
        · rw [u]
          unfold lw_pc lw_ps
          omega
      · exact none (Or.inr (Or.inl ⟨z, by omega, rfl, rfl⟩))
    · exact none (Or.inl ⟨by omega, rfl, rfl⟩)
  · refine ⟨0, 0, 0, 0, 0, 0, lw_pc L K, lw_ps L K, Or.inr ⟨hg, rfl, rfl, rfl, rfl, rfl, rfl⟩, by omega, by omega, fun L' K' u v => ?_⟩
    rcases u with ⟨u, _⟩ | ⟨_, _, u, _⟩
    · rcases v with ⟨v, _⟩ | ⟨_, _, v, _⟩
      · rw [u, v]; exact ⟨Nat.le_refl _, Nat.le_refl _⟩
      · omega
    · omega
/-- a count that the class may work out -/
theorem lw_cnt {ρ h : am_H} {A L S K : Int} (hJ : lw_J ρ h A L S K) (hP : h 11 1 ≠ 0) : 0 ≤ h 19 7 ∧ mt_pw (h 11 0) (h 11 1).toNat ∈ lw_cs := by
  have o := (cl_RO hJ.1.1.1 hP).1
  exact ⟨lw_h7 hJ.1 hP, lw_cs_in ⟨o.2.2.1, o.2.2.2.1⟩ ⟨o.1, o.2.1⟩⟩
/-- a question on both sides -/
theorem jt_T {ρ ρ1 h h1 h2 : am_H} {A L S K : Int} {mc ms bc' bs' : Nat} (hJ : lw_J ρ h A L S K) (q1 : cl_T ρ h L S K mc ms ρ1 h1) (q2 : md_fr h1 h2) (hb : ∀ L', gr_A L L' (mt_pw (h 11 0) (h 11 1).toNat) mc ms → lw_pc L' K ≤ bc' ∧ lw_ps L' K ≤ bs') : ∃ A' L', lw_J ρ1 h2 A' L' S K ∧ lw_pc L' K ≤ bc' ∧ lw_ps L' K ≤ bs' := by
  obtain ⟨A', L', i1, i2, i3⟩ := q1
  exact ⟨A', L', lw_keep hJ i1 i2 q2, hb L' i3⟩
theorem jt_Tf {ρ ρ1 h h1 h2 : am_H} {A L S K f : Int} {mc ms bc' bs' : Nat} (hJ : lw_J ρ h A L S K) (q1 : cl_Tf f h L S K mc ms ρ1 h1) (q2 : md_frF f h1 h2) (hb : ∀ L', gr_A L L' (mt_pw (h 11 0) (h 11 1).toNat) mc ms → lw_pc L' K ≤ bc' ∧ lw_ps L' K ≤ bs') : ∃ A' L', lw_J ρ1 h2 A' L' S K ∧ lw_pc L' K ≤ bc' ∧ lw_ps L' K ≤ bs' := by
  obtain ⟨A', L', i1, i2, i3, i4⟩ := q1
  exact ⟨A', L', lw_keepF hJ i1 i2 i3 q2, hb L' i4⟩
theorem jt_T2 {ρ ρ1 h h1 h2 : am_H} {A L S K : Int} {mc1 ms1 mc2 ms2 bc' bs' : Nat} (hJ : lw_J ρ h A L S K) (q1 : cl_T2 ρ h L K mc1 ms1 mc2 ms2 ρ1 h1) (q2 : md_fr h1 h2) (hb : ∀ L' K', gr_A L L' (mt_pw (h 11 0) (h 11 1).toNat) mc1 ms1 → gr_S K K' (mt_pw (h 11 0) (h 11 1).toNat) mc2 ms2 → lw_pc L' K' ≤ bc' ∧ lw_ps L' K' ≤ bs') : ∃ A' L' S' K', lw_J ρ1 h2 A' L' S' K' ∧ lw_pc L' K' ≤ bc' ∧ lw_ps L' K' ≤ bs' := by
  obtain ⟨A', L', S', K', i1, i2, i3, i4⟩ := q1
  exact ⟨A', L', S', K', lw_keep hJ i1 i2 q2, hb L' K' i3 i4⟩
