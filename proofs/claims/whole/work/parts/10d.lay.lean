/-! where the cells stand, once both objects are made -/
def am_layC : List (Int × Int × Int) := [(1, 0, 2), (1, 1, 11), (1, 2, 15), (1, 3, 19), (1, 4, 29), (1, 5, 33), (1, 6, 37), (2, -1, 4), (2, 0, 3), (2, 1, 5), (2, 2, 7), (2, 3, 9), (3, 2, 4), (4, -1, 60), (5, 2, 6), (6, -1, 60), (7, 2, 8), (8, -1, 60), (9, 2, 10), (10, -1, 60), (11, 2, 12), (11, 3, 13), (11, 4, 14), (12, -1, 5), (13, -1, 5), (14, -1, 5), (15, 2, 16), (15, 3, 17), (15, 4, 18), (16, -1, 5), (17, -1, 5), (18, -1, 5), (20, 2, 21), (20, 3, 22), (20, 4, 23), (21, -1, 5), (22, -1, 5), (23, -1, 5), (19, 0, 20), (33, 0, 34), (33, 1, 35), (33, 2, 36), (34, -1, 8), (35, -1, 8), (36, -1, 8)]
def am_layM : List (Int × Int × Int) := [(38, 4, 39), (38, 5, 40), (38, 9, 41), (38, 10, 42), (38, 11, 43), (38, 12, 44), (38, 13, 45), (38, 14, 46), (38, 15, 47), (38, 16, 48), (38, 17, 49), (38, 22, 50), (38, 24, 51), (38, 25, 52), (38, 26, 53), (38, 27, 54), (38, 28, 55), (38, 29, 56), (38, 30, 57), (39, -1, 5), (40, -1, 5), (41, -1, 5), (42, -1, 5), (43, -1, 5), (44, -1, 5), (45, -1, 7776), (46, -1, 7776), (47, -1, 7776), (48, -1, 7776), (49, -1, 7776), (50, -1, 5), (51, -1, 8), (52, -1, 8), (53, -1, 8), (54, -1, 4), (55, -1, 4), (56, -1, 240), (57, -1, 60)]
def am_LC (ρ : am_H) : Prop := 58 ≤ ρ 0 0 ∧ ∀ q ∈ am_layC, ρ q.1 q.2.1 = q.2.2
def am_LM (ρ : am_H) : Prop := 58 ≤ ρ 0 0 ∧ ∀ q ∈ am_layM, ρ q.1 q.2.1 = q.2.2
theorem am_lc {ρ : am_H} (h : am_LC ρ) (x k v : Int) (hm : (x, k, v) ∈ am_layC) : ρ x k = v := h.2 _ hm
theorem am_lm {ρ : am_H} (h : am_LM ρ) (x k v : Int) (hm : (x, k, v) ∈ am_layM) : ρ x k = v := h.2 _ hm
theorem am_lin {ρ : am_H} (h : 58 ≤ ρ 0 0) {x : Int} {ci : Nat} (h0 : 0 < x) (h1 : x < 58) (hk : am_K x = ci) : am_in ρ x ci := ⟨h0, by omega, hk⟩
theorem am_RA11 {ρ : am_H} (h : am_LC ρ) : am_RA ρ 11 := ⟨am_lin h.1 (by decide) (by decide) rfl, am_lin h.1 (by decide) (by decide) rfl, am_lin h.1 (by decide) (by decide) rfl, am_lin h.1 (by decide) (by decide) rfl, ⟨am_lc h 11 2 12 (by decide), am_lc h 11 3 13 (by decide), am_lc h 11 4 14 (by decide)⟩, am_lc h 12 (-1) 5 (by decide), am_lc h 13 (-1) 5 (by decide), am_lc h 14 (-1) 5 (by decide)⟩
theorem am_RA15 {ρ : am_H} (h : am_LC ρ) : am_RA ρ 15 := ⟨am_lin h.1 (by decide) (by decide) rfl, am_lin h.1 (by decide) (by decide) rfl, am_lin h.1 (by decide) (by decide) rfl, am_lin h.1 (by decide) (by decide) rfl, ⟨am_lc h 15 2 16 (by decide), am_lc h 15 3 17 (by decide), am_lc h 15 4 18 (by decide)⟩, am_lc h 16 (-1) 5 (by decide), am_lc h 17 (-1) 5 (by decide), am_lc h 18 (-1) 5 (by decide)⟩
theorem am_RA20 {ρ : am_H} (h : am_LC ρ) : am_RA ρ 20 := ⟨am_lin h.1 (by decide) (by decide) rfl, am_lin h.1 (by decide) (by decide) rfl, am_lin h.1 (by decide) (by decide) rfl, am_lin h.1 (by decide) (by decide) rfl, ⟨am_lc h 20 2 21 (by decide), am_lc h 20 3 22 (by decide), am_lc h 20 4 23 (by decide)⟩, am_lc h 21 (-1) 5 (by decide), am_lc h 22 (-1) 5 (by decide), am_lc h 23 (-1) 5 (by decide)⟩
theorem am_SA3 {ρ : am_H} (h : am_LC ρ) : am_SA ρ 3 := ⟨am_lin h.1 (by decide) (by decide) rfl, am_lin h.1 (by decide) (by decide) rfl, am_lc h 3 2 4 (by decide), am_lc h 4 (-1) 60 (by decide)⟩
theorem am_SA5 {ρ : am_H} (h : am_LC ρ) : am_SA ρ 5 := ⟨am_lin h.1 (by decide) (by decide) rfl, am_lin h.1 (by decide) (by decide) rfl, am_lc h 5 2 6 (by decide), am_lc h 6 (-1) 60 (by decide)⟩
theorem am_SA7 {ρ : am_H} (h : am_LC ρ) : am_SA ρ 7 := ⟨am_lin h.1 (by decide) (by decide) rfl, am_lin h.1 (by decide) (by decide) rfl, am_lc h 7 2 8 (by decide), am_lc h 8 (-1) 60 (by decide)⟩
theorem am_SA9 {ρ : am_H} (h : am_LC ρ) : am_SA ρ 9 := ⟨am_lin h.1 (by decide) (by decide) rfl, am_lin h.1 (by decide) (by decide) rfl, am_lc h 9 2 10 (by decide), am_lc h 10 (-1) 60 (by decide)⟩
theorem am_SAk {ρ : am_H} (h : am_LC ρ) {k : Int} (h0 : 0 ≤ k) (h1 : k < 4) : am_SA ρ (3 + 2 * k) ∧ ρ 2 k = 3 + 2 * k := by
  rcases (show k = 0 ∨ k = 1 ∨ k = 2 ∨ k = 3 by omega) with rfl | rfl | rfl | rfl
  · exact ⟨am_SA3 h, am_lc h 2 0 3 (by decide)⟩
  · exact ⟨am_SA5 h, am_lc h 2 1 5 (by decide)⟩
  · exact ⟨am_SA7 h, am_lc h 2 2 7 (by decide)⟩
  · exact ⟨am_SA9 h, am_lc h 2 3 9 (by decide)⟩
