/-! both calls done: telling, kinds, firsts -/
section JT
variable {ρ ρ1 h h1 h2 : am_H} {A L S K : Int}
theorem lw_sc9 (hJ : lw_J ρ h A L S K) {v : Int} (e1 : h1 = am_u h 1 9 v) (e2 : h2 = am_u h1 38 0 v) : lw_J ρ h2 A L S K := by
  subst e1
  subst e2
  exact lw_keepF (f := v) hJ (cl_I_9 hJ.1) (fun x j _ z => am_u_n z) (am_u_s _ _ _ _) md_frF_u
theorem lw_sc8 (hJ : lw_J ρ h A L S K) {v : Int} (e1 : h1 = am_u h 1 8 v) (e2 : h2 = am_u h1 38 31 v) : lw_J ρ h2 A L S K := by
  have f : ∀ x j, ¬ (x = 1 ∧ j = 8) → h1 x j = h x j := fun x j y => by rw [e1, am_u_n y]
  have f2 : ∀ x j, ¬ (x = 38 ∧ j = 31) → h2 x j = h1 x j := fun x j y => by rw [e2, am_u_n y]
  have f3 : ∀ x j, ¬ (x = 38 ∧ j = 31) → ¬ (x = 1 ∧ j = 8) → h2 x j = h x j := fun x j y1 y2 => (f2 x j y1).trans (f x j y2)
  obtain ⟨⟨a1, a2, a3, a4, a5, a6⟩, b, cc, d⟩ := id hJ.2
  refine lw_JJ (h1 := h1) (cl_I_fr (fun x j y => f x j (by omega)) hJ.1) (fun x j y => f2 x j (by omega)) ⟨⟨?_, ?_, ?_, ?_, ?_, ?_⟩, lw_f1 hJ.2 (fun x j y => f x j (by omega)) (fun x j y => f3 x j (by omega) (by omega)), lw_f2 hJ.2 (fun x j y => f x j (by omega)) (fun x j y => f3 x j (by omega) (by omega)), lw_f3 hJ.2 (fun x j y => f x j (by omega)) (fun x j y => f3 x j (by omega) (by omega))⟩
  · rw [f3 38 1 (by omega) (by omega), f 11 1 (by omega)]; exact a1
  · rw [f3 38 2 (by omega) (by omega), f 11 0 (by omega)]; exact a2
  · rw [f3 38 3 (by omega) (by omega), f 1 7 (by omega)]; exact a3
  · rw [e2, am_u_s, e1, am_u_s]
  · rw [f3 38 0 (by omega) (by omega), f 1 9 (by omega)]; exact a5
  · rw [f3 38 23 (by omega) (by omega), f 33 3 (by omega)]; exact a6
theorem jt_tell (hJ : lw_J ρ h A L S K) {p : Int} (e1 : h1 = am_u h 1 8 (o_tellT (h 11 1) (h 12) p (h 1 8))) (e2 : h2 = am_u h1 38 31 (o_tellT (h1 38 1) (h1 39) p (h1 38 31))) : o_tell (h 11 1) (h 12) (h 13) p = o_tell (h1 38 1) (h1 39) (h1 40) p ∧ lw_J ρ h2 A L S K := by
  have f : ∀ x j, 38 ≤ x → h1 x j = h x j := fun x j y => by rw [e1, am_u_n (by omega)]
  obtain ⟨⟨a1, a2, a3, a4, a5, a6⟩, b, cc, d⟩ := id hJ.2
  have g : h1 38 1 = h 11 1 := (f 38 1 (by omega)).trans a1
  have t : o_tellT (h1 38 1) (h1 39) p (h1 38 31) = o_tellT (h 11 1) (h 12) p (h 1 8) := by
    unfold o_tellT
    rw [g, f 38 31 (by omega), a4]
    by_cases z : 0 ≤ p ∧ p < h 11 1
    · rw [if_pos z, if_pos z, f 39 p (by omega), (b p z.1 z.2).1]
    · rw [if_neg z, if_neg z]
  rw [t] at e2
  refine ⟨?_, lw_sc8 hJ e1 e2⟩
  unfold o_tell
  rw [g]
  by_cases z : 0 ≤ p ∧ p < h 11 1
  · rw [if_pos z, if_pos z, f 39 p (by omega), f 40 p (by omega), (b p z.1 z.2).1, (b p z.1 z.2).2]
  · rw [if_neg z, if_neg z]
theorem jt_call (hJ : lw_J ρ h A L S K) {p : Int} (e1 : h1 = am_u h 1 8 (if 0 ≤ p ∧ p < h 11 1 then o_lv (h 1 8) (if h 12 p = 2 then 5 else 4) else h 1 8)) (e2 : h2 = am_u h1 38 31 (if 0 ≤ p ∧ p < h1 38 1 then o_lv (h1 38 31) (if h1 39 p = 2 then 5 else 4) else h1 38 31)) : (if 0 ≤ p ∧ p < h 11 1 then (if h 12 p = 2 then 60 else p) else -1) = (if 0 ≤ p ∧ p < h1 38 1 then (if h1 39 p = 2 then 60 else p) else -1) ∧ lw_J ρ h2 A L S K := by
  have f : ∀ x j, 38 ≤ x → h1 x j = h x j := fun x j y => by rw [e1, am_u_n (by omega)]
  obtain ⟨⟨a1, a2, a3, a4, a5, a6⟩, b, cc, d⟩ := id hJ.2
  have g : h1 38 1 = h 11 1 := (f 38 1 (by omega)).trans a1
  rw [g, f 38 31 (by omega), a4, f 39 p (by omega)] at e2
  rw [g, f 39 p (by omega)]
  by_cases z : 0 ≤ p ∧ p < h 11 1
  · rw [if_pos z] at e1
    rw [if_pos z, (b p z.1 z.2).1] at e2
    rw [if_pos z, if_pos z, (b p z.1 z.2).1]
    exact ⟨rfl, lw_sc8 hJ e1 e2⟩
  · rw [if_neg z] at e1
    rw [if_neg z] at e2
    rw [if_neg z, if_neg z]
    exact ⟨rfl, lw_sc8 hJ e1 e2⟩
theorem jt_as (hJ : lw_J ρ h A L S K) {p k : Int} (e1 : h1 = am_u h 1 9 (if (0 ≤ p ∧ p < h 11 1) ∧ (0 ≤ k ∧ k ≤ 2) ∧ h 12 p < k then 2 else 0)) (e2 : h2 = am_u h1 38 0 (if (0 ≤ p ∧ p < h1 38 1) ∧ (0 ≤ k ∧ k ≤ 2) ∧ h1 39 p < k then 2 else 0)) :
    (if 0 ≤ p ∧ p < h 11 1 then (if 0 ≤ k ∧ k ≤ 2 then (if k ≤ h 12 p then 1 else -12) else -2) else -1) = (if 0 ≤ p ∧ p < h1 38 1 then (if 0 ≤ k ∧ k ≤ 2 then (if k ≤ h1 39 p then 1 else -12) else -2) else -1) ∧ lw_J ρ h2 A L S K := by
  have f : ∀ x j, 38 ≤ x → h1 x j = h x j := fun x j y => by rw [e1, am_u_n (by omega)]
  obtain ⟨⟨a1, a2, a3, a4, a5, a6⟩, b, cc, d⟩ := id hJ.2
  have g : h1 38 1 = h 11 1 := (f 38 1 (by omega)).trans a1
  rw [g, f 39 p (by omega)] at e2
  rw [g, f 39 p (by omega)]
  by_cases z : 0 ≤ p ∧ p < h 11 1
  · rw [(b p z.1 z.2).1] at e2
    rw [(b p z.1 z.2).1]
    exact ⟨rfl, lw_sc9 hJ e1 e2⟩
  · rw [if_neg (fun y => z y.1)] at e1
    rw [if_neg (fun y => z y.1)] at e2
    rw [if_neg z, if_neg z]
    exact ⟨rfl, lw_sc9 hJ e1 e2⟩
theorem jt_many (hJ : lw_J ρ h A L S K) {w : Int} : o_many (h 11 1) (h 11 0) (h 1 7) (h 13) (h 33 3) w = o_many (h 38 1) (h 38 2) (h 38 3) (h 40) (h 38 23) w := by
  obtain ⟨⟨a1, a2, a3, a4, a5, a6⟩, b, cc, d⟩ := id hJ.2
  unfold o_many
  rw [a1, a2, a3, a6, mt_sum_z_eq (f := h 13) (g := h 40) (by have := lw_P02 hJ.1.1; omega) (fun p p0 p1 => (b p p0 p1).2.symm)]
theorem lw_so {c P B : Int} {t t' q q' v v' kd kd' f f' : Int → Int} (hP : 2 ≤ P) (hr : ∀ k, 0 ≤ k → k < c → t k = t' k ∧ q k = q' k ∧ v k = v' k) (hq : ∀ k, 0 ≤ k → k < c → 0 ≤ q k ∧ q k < P) (hk : mt_eq P kd kd') (hf : mt_eq P f f') : so_g c t q v P B kd f ↔ so_g c t' q' v' P B kd' f' := by
  have key : ∀ k, 0 ≤ k → k < c → mt_it P B kd (t k).toNat f (q k) = mt_it P B kd' (t' k).toNat f' (q' k) := fun k k0 k1 => by
    rw [← (hr k k0 k1).1, ← (hr k k0 k1).2.1]
    exact mt_it_eq hP hk hf _ _ (hq k k0 k1).1 (hq k k0 k1).2
  constructor
  · intro z k k0 k1
    rw [← key k k0 k1, ← (hr k k0 k1).2.2]; exact z k k0 k1
  · intro z k k0 k1
    rw [key k k0 k1, (hr k k0 k1).2.2]; exact z k k0 k1
theorem mt_up_eq {P p v : Int} {f g : Int → Int} (h : mt_eq P f g) : mt_eq P (mt_up f p v) (mt_up g p v) := fun q q0 q1 => by
  unfold mt_up
  rw [h q q0 q1]
theorem jt_so (hJ : lw_J ρ h A L S K) (f : ∀ x j, 38 ≤ x → h1 x j = h x j) (hP : h 11 1 ≠ 0) {kd kd' g g' : Int → Int} (hk : mt_eq (h 11 1) kd kd') (hg : mt_eq (h 11 1) g g') : o_so h kd g ↔ md_so h1 kd' g' := by
  obtain ⟨⟨a1, a2, a3, a4, a5, a6⟩, b, cc, d⟩ := id hJ.2
  obtain ⟨r1, r2, r3⟩ := id hJ.1.1.2.2
  unfold o_so md_so
  rw [f 38 23 (by omega), f 38 1 (by omega), f 38 2 (by omega), a1, a2, a6]
  refine lw_so (cl_RO hJ.1.1.1 hP).1.1 (fun k k0 k1 => ?_) (fun k k0 k1 => (r3 k k0 k1).2.2) hk hg
  rw [f 51 k (by omega), f 52 k (by omega), f 53 k (by omega)]
  have z := cc k k0 k1
  exact ⟨z.1.symm, z.2.1.symm, z.2.2.symm⟩
theorem jt_kinds (hJ : lw_J ρ h A L S K) {p : Int} {r r' : Option am_V} (f1 : am_fr [15, 16, 17, 18] h h1) (q1 : (¬ (0 ≤ p ∧ p < h 11 1) ∧ r = some (am_I (-1))) ∨ ((0 ≤ p ∧ p < h 11 1) ∧ ∃ S, r = some (am_I S) ∧ st_is 3 (fun k => o_so h (mt_up (h 12) p k) (h 13)) S))
    (f2 : md_fr h1 h2) (q2 : (¬ (0 ≤ p ∧ p < h1 38 1) ∧ r' = some (am_I (-1))) ∨ ((0 ≤ p ∧ p < h1 38 1) ∧ ∃ S, r' = some (am_I S) ∧ st_is 3 (fun k => md_so h1 (mt_up (h1 39) p k) (h1 40)) S)) : r = r' ∧ lw_J ρ h2 A L S K := by
  obtain ⟨⟨a1, a2, a3, a4, a5, a6⟩, b, cc, d⟩ := id hJ.2
  have f : ∀ x j, ¬ (15 ≤ x ∧ x ≤ 18) → h1 x j = h x j := fun x j y => f1 x j (by simp; omega)
  refine ⟨?_, lw_keep hJ (cl_I_fr (fun x j y => f x j (by omega)) hJ.1) (fun x j y => f x j (by omega)) f2⟩
  rw [f 38 1 (by omega), a1] at q2
  rcases q1 with ⟨z, rfl⟩ | ⟨z, T, rfl, hT⟩ <;> rcases q2 with ⟨y, rfl⟩ | ⟨y, U, rfl, hU⟩
  · rfl
  · exact absurd y z
  · exact absurd z y
  · rw [st_uniq hT hU (fun i i0 i1 => jt_so hJ (fun x j y => f x j (by omega)) (by omega) (mt_up_eq (fun q q0 q1 => by rw [f 39 q (by omega)]; exact (b q q0 q1).1.symm)) (fun q q0 q1 => by rw [f 40 q (by omega)]; exact (b q q0 q1).2.symm))]
theorem jt_firsts (hJ : lw_J ρ h A L S K) {p : Int} {r r' : Option am_V} (f1 : am_fr [15, 16, 17, 18] h h1) (q1 : (¬ (0 ≤ p ∧ p < h 11 1) ∧ r = some (am_I (-1))) ∨ ((0 ≤ p ∧ p < h 11 1) ∧ ∃ S, r = some (am_I S) ∧ st_is (h 11 0) (fun k => o_so h (h 12) (mt_up (h 13) p k)) S))
    (f2 : md_fr h1 h2) (q2 : (¬ (0 ≤ p ∧ p < h1 38 1) ∧ r' = some (am_I (-1))) ∨ ((0 ≤ p ∧ p < h1 38 1) ∧ ∃ S, r' = some (am_I S) ∧ st_is (h1 38 2) (fun k => md_so h1 (h1 39) (mt_up (h1 40) p k)) S)) : r = r' ∧ lw_J ρ h2 A L S K := by
  obtain ⟨⟨a1, a2, a3, a4, a5, a6⟩, b, cc, d⟩ := id hJ.2
  have f : ∀ x j, ¬ (15 ≤ x ∧ x ≤ 18) → h1 x j = h x j := fun x j y => f1 x j (by simp; omega)
  refine ⟨?_, lw_keep hJ (cl_I_fr (fun x j y => f x j (by omega)) hJ.1) (fun x j y => f x j (by omega)) f2⟩
  rw [f 38 1 (by omega), a1, f 38 2 (by omega), a2] at q2
  rcases q1 with ⟨z, rfl⟩ | ⟨z, T, rfl, hT⟩ <;> rcases q2 with ⟨y, rfl⟩ | ⟨y, U, rfl, hU⟩
  · rfl
  · exact absurd y z
  · exact absurd z y
  · rw [st_uniq hT hU (fun i i0 i1 => jt_so hJ (fun x j y => f x j (by omega)) (by omega) (fun q q0 q1 => by rw [f 39 q (by omega)]; exact (b q q0 q1).1.symm) (mt_up_eq (fun q q0 q1 => by rw [f 40 q (by omega)]; exact (b q q0 q1).2.symm)))]
end JT
