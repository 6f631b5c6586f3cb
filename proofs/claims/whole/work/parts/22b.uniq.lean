/-! each answer is one alone -/
theorem o_g3_uniq {i : Prop} {P : Int} {A A' : Int → Prop} {v v' : Int} (h : o_g3 i P A v) (h' : o_g3 i P A' v') (u : i → P ≠ 0 → A v → A' v' → v = v') : v = v' := by
  rcases h with ⟨a, b⟩ | ⟨a, b, c⟩ | ⟨a, b, c⟩ <;> rcases h' with ⟨a', b'⟩ | ⟨a', b', c'⟩ | ⟨a', b', c'⟩
  · omega
  · exact absurd a' a
  · exact absurd a' a
  · exact absurd a a'
  · omega
  · exact absurd b b'
  · exact absurd a a'
  · exact absurd b' b
  · exact u a b c c'
theorem o_g2_uniq {i j : Prop} {A A' : Int → Prop} {v v' : Int} (h : o_g2 i j A v) (h' : o_g2 i j A' v') (u : i → j → A v → A' v' → v = v') : v = v' := by
  rcases h with ⟨a, b⟩ | ⟨a, b, c⟩ | ⟨a, b, c⟩ <;> rcases h' with ⟨a', b'⟩ | ⟨a', b', c'⟩ | ⟨a', b', c'⟩
  · omega
  · exact absurd a' a
  · exact absurd a' a
  · exact absurd a a'
  · omega
  · exact absurd b' b
  · exact absurd a a'
  · exact absurd b b'
  · exact u a b c c'
theorem o_now_uniq {nx : Int → Int} {c w v v' : Int} (h : o_now nx c w v) (h' : o_now nx c w v') : v = v' := by
  rcases h with ⟨a, b⟩ | ⟨a, b⟩ | ⟨a, a2, b⟩ <;> rcases h' with ⟨a', b'⟩ | ⟨a', b'⟩ | ⟨a', a2', b'⟩
  · exact gr_tl_uniq b b'
  · omega
  · exact absurd a a'
  · omega
  · exact gr_rd_uniq b b'
  · exact absurd a a2'
  · exact absurd a' a
  · exact absurd a' a2
  · rcases b with ⟨x, y⟩ | ⟨x, y⟩ <;> rcases b' with ⟨x', y'⟩ | ⟨x', y'⟩
    · omega
    · exact absurd y y'
    · exact absurd y' y
    · omega
theorem o_from_uniq {nx : Int → Int} {N P B c k v v' : Int} (h : o_from nx N P B c k v) (h' : o_from nx N P B c k v') : v = v' := by
  rcases h with ⟨a, b⟩ | ⟨a, f, b, e⟩ <;> rcases h' with ⟨a', b'⟩ | ⟨a', f', b', e'⟩
  · rw [b, b']
  · omega
  · omega
  · rw [e, e', gr_fc_uniq b b']
theorem o_rows_uniq {nx : Int → Int} {N w v v' : Int} (h : o_rows nx N w v) (h' : o_rows nx N w v') : v = v' := by
  unfold o_rows at h h'
  rw [h, h']
theorem o_longest_uniq {nx : Int → Int} {N P B k v v' : Int} (h : o_longest nx N P B k v) (h' : o_longest nx N P B k v') : v = v' := by
  obtain ⟨tl, m, c, a1, a2, a3⟩ := h
  obtain ⟨tl', m', c', b1, b2, b3⟩ := h'
  obtain ⟨rfl, rfl⟩ := gr_lg_uniq (fun d d0 d1 => gr_tl_uniq (a1 d d0 d1) (b1 d d0 d1)) a2 b2
  rw [a3, b3]
theorem o_few_uniq {nx : Int → Int} {N P B c w v v' : Int} (h : o_few nx N P B c w v) (h' : o_few nx N P B c w v') : v = v' := by
  obtain ⟨T, a1, a2, a3⟩ := h
  obtain ⟨T', b1, b2, b3⟩ := h'
  rw [a3, b3, fw_uniq a1 b1]
theorem o_after_uniq {nx : Int → Int} {P B c p t v v' : Int} (h : o_after nx P B c p t v) (h' : o_after nx P B c p t v') : v = v' := by
  obtain ⟨tl, M, a1, a2, a3⟩ := h
  obtain ⟨tl', M', b1, b2, b3⟩ := h'
  rw [a3, b3, gr_tl_uniq a1 b1, gr_rd_uniq a2 b2]
theorem o_meet_uniq {P B : Int} {nx c c' : Int → Int} {row k l fl v f v' f' : Int} (hc : fl = 0 → (0 ≤ k ∧ k < 4) → mt_eq P c c') (h : o_meet P B nx row k l fl c v f) (h' : o_meet P B nx row k l fl c' v' f') : v = v' ∧ f = f' := by
  have ok : fl = 0 → (0 ≤ k ∧ k < 4) → (mt_ok P B c ↔ mt_ok P B c') := fun z y => by
    constructor
    · intro u p p0 p1
      rw [← hc z y p p0 p1]; exact u p p0 p1
    · intro u p p0 p1
      rw [hc z y p p0 p1]; exact u p p0 p1
  have cd : fl = 0 → (0 ≤ k ∧ k < 4) → mt_cd B c P.toNat = mt_cd B c' P.toNat := fun z y => mt_cd_eq (fun p p0 p1 => hc z y p p0 (by omega))
  rcases h with ⟨a1, a2, a3⟩ | ⟨a1, a2, a3, a4⟩ | ⟨a1, a2, a3, a4, a5⟩ | ⟨a1, a2, a3, a4, a5, a6⟩ | ⟨a1, a2, a3, a4, a5, a6, a7⟩ | ⟨a1, a2, a3, a4, a5, a6, a7⟩ <;>
  rcases h' with ⟨b1, b2, b3⟩ | ⟨b1, b2, b3, b4⟩ | ⟨b1, b2, b3, b4, b5⟩ | ⟨b1, b2, b3, b4, b5, b6⟩ | ⟨b1, b2, b3, b4, b5, b6, b7⟩ | ⟨b1, b2, b3, b4, b5, b6, b7⟩ <;>
  first
  | exact absurd a1 b1 | exact absurd b1 a1 | exact absurd a2 b2 | exact absurd b2 a2 | exact absurd a3 b3 | exact absurd b3 a3 | exact absurd a4 b4 | exact absurd b4 a4
  | exact absurd ((ok a4 a2).mpr b5) a5 | exact absurd ((ok a4 a2).mp a5) b5
  | exact ⟨by omega, by omega⟩
  | (rw [← cd a4 a2] at b7; exact ⟨gr_mt_uniq a7 b7, by omega⟩)
theorem o_ofDay_uniq {nx : Int → Int} {P B fw s o w v v' : Int} {F : Int → Int} (h : o_ofDay nx P B fw F s o w v) (h' : o_ofDay nx P B fw F s o w v') : v = v' := by
  rcases h with ⟨a1, a2⟩ | ⟨a1, a2, a3⟩ | ⟨a1, a2, a3⟩ <;> rcases h' with ⟨b1, b2⟩ | ⟨b1, b2, b3⟩ | ⟨b1, b2, b3⟩
  · omega
  · exact absurd a1 b1
  · exact absurd a1 b1
  · exact absurd b1 a1
  · omega
  · exact absurd b2 a2
  · exact absurd b1 a1
  · exact absurd a2 b2
  · rcases a3 with ⟨x, y⟩ | ⟨x, y⟩ | ⟨x, y⟩ | ⟨x, y⟩ | ⟨x, y⟩ <;> rcases b3 with ⟨x', y'⟩ | ⟨x', y'⟩ | ⟨x', y'⟩ | ⟨x', y'⟩ | ⟨x', y'⟩ <;>
    first
    | (exfalso; omega) | exact gr_tl_uniq y y' | exact y.trans y'.symm
theorem dy_fc {P B : Int} {kd c c' f : Int → Int} : ∀ m : Nat, (∀ t : Int, 0 ≤ t → t < 2 * m → c t = c' t) → dy_f P B kd c f m = dy_f P B kd c' f m
  | 0, _ => rfl
  | m + 1, h => by
    have ih := dy_fc (P := P) (B := B) (kd := kd) (f := f) m (fun t t0 t1 => h t t0 (by omega))
    unfold dy_f
    rw [h (2 * m + 1) (by omega) (by omega), h (2 * m) (by omega) (by omega), ih]
theorem dy_oc {P B : Int} {kd c c' f : Int → Int} : ∀ m : Nat, (∀ t : Int, 0 ≤ t → t < 2 * m → c t = c' t) → dy_o P B kd c f m = dy_o P B kd c' f m
  | 0, _ => rfl
  | m + 1, h => by
    have ih := dy_oc (P := P) (B := B) (kd := kd) (f := f) m (fun t t0 t1 => h t t0 (by omega))
    unfold dy_o
    rw [ih, dy_fc (m + 1) h]
theorem dy_sc {c c' : Int → Int} {m : Nat} (h : ∀ t : Int, 0 ≤ t → t < 2 * m → c t = c' t) : dy_s c m = dy_s c' m :=
  mt_sum_eq (fun a a0 a1 => by rw [h (2 * a) (by omega) (by omega), h (2 * a + 1) (by omega) (by omega)])
theorem o_day_uniq {P B : Int} {nx kd kd' f0 f0' c c' : Int → Int} {k l n w fl v f v' f' : Int} (hP : P ≠ 0 → 2 ≤ P) (hk : mt_eq P kd kd') (hf : mt_eq P f0 f0') (hc : fl = 0 → (0 ≤ k ∧ k < 4) → ∀ t, 0 ≤ t → t < 2 * n → c t = c' t) (h : o_day P B nx kd f0 k l n w fl c v f) (h' : o_day P B nx kd' f0' k l n w fl c' v' f') : v = v' ∧ f = f' := by
  have ac : fl = 0 → (0 ≤ k ∧ k < 4) → (dy_acts c n ↔ dy_acts c' n) := fun z y => by
    constructor
    · intro u a a0 a1
      rw [← hc z y (2 * a) (by omega) (by omega), ← hc z y (2 * a + 1) (by omega) (by omega)]; exact u a a0 a1
    · intro u a a0 a1
      rw [hc z y (2 * a) (by omega) (by omega), hc z y (2 * a + 1) (by omega) (by omega)]; exact u a a0 a1
  have al : fl = 0 → (0 ≤ k ∧ k < 4) → ∀ m, m ≤ n → (dy_all P B c m ↔ dy_all P B c' m) := fun z y m hm => by
    constructor
    · intro u a a0 a1
      rw [← hc z y (2 * a) (by omega) (by omega), ← hc z y (2 * a + 1) (by omega) (by omega)]; exact u a a0 a1
    · intro u a a0 a1
      rw [hc z y (2 * a) (by omega) (by omega), hc z y (2 * a + 1) (by omega) (by omega)]; exact u a a0 a1
  rcases h with ⟨a1, a2, a3⟩ | ⟨a1, a2, a3, a4⟩ | ⟨a1, a2, a3, a4, a5⟩ | ⟨a1, a2, a3, a4, a5, a6⟩ | ⟨a1, a2, a3, a4, a5, a6, a7⟩ | ⟨a1, a2, a3, a4, a5, a6, fw, a7, a8⟩ <;>
  rcases h' with ⟨b1, b2, b3⟩ | ⟨b1, b2, b3, b4⟩ | ⟨b1, b2, b3, b4, b5⟩ | ⟨b1, b2, b3, b4, b5, b6⟩ | ⟨b1, b2, b3, b4, b5, b6, b7⟩ | ⟨b1, b2, b3, b4, b5, b6, fw', b7, b8⟩ <;>
  first
  | exact absurd a1 b1 | exact absurd b1 a1 | exact absurd a2 b2 | exact absurd b2 a2 | exact absurd a3 b3 | exact absurd b3 a3 | exact absurd a4 b4 | exact absurd b4 a4
  | exact absurd ((ac a4 a1).mpr b5) a5 | exact absurd ((ac a4 a1).mp a5) b5
  | exact ⟨by omega, by omega⟩
  | (refine ⟨?_, by omega⟩
     have e1 : dy_fw P B c n fw' := by
       rcases b7 with ⟨y1, y2, y3, y4⟩ | ⟨y1, y2⟩
       · refine Or.inl ⟨y1, y2, ?_, (al a4 a1 _ (by omega)).mpr y4⟩
         rw [hc a4 a1 (2 * fw') (by omega) (by omega), hc a4 a1 (2 * fw' + 1) (by omega) (by omega)]; exact y3
       · exact Or.inr ⟨y1, (al a4 a1 _ (by omega)).mpr y2⟩
     have e2 := dy_fw_uniq a7 e1
     subst e2
     have n0 := a2.2.1
     have cc : ∀ t : Int, 0 ≤ t → t < 2 * (n.toNat : Nat) → c t = c' t := fun t t0 t1 => hc a4 a1 t t0 (by omega)
     rw [← dy_fc n.toNat cc, ← dy_sc cc, ← dy_oc n.toNat cc] at b8
     refine o_ofDay_uniq a8 (o_ofDay_eq (fun z => ?_) b8)
     have al2 : dy_all P B c n := by
       rcases a7 with ⟨y1, _⟩ | ⟨_, y2⟩
       · omega
       · exact y2
     exact ⟨fun p p0 p1 => (dy_f_eq (hP a3) hk hf al2 n.toNat (by omega) p p0 p1).symm, rfl, (dy_o_eq (hP a3) hk hf al2 n.toNat (by omega)).symm⟩)
theorem tx_ff_c {c c' : Int → Int} {n v : Int} (hc : ∀ t, 0 ≤ t → t < n → c t = c' t) (h : tx_ff c n v) : tx_ff c' n v := by
  have on : ∀ t, 0 ≤ t → t < n → tx_on t (c t) (c 1 - 48) = tx_on t (c' t) (c' 1 - 48) := fun t t0 t1 => by
    rw [hc t t0 t1]
    by_cases z : t < 2
    · unfold tx_on
      by_cases y : t = 0
      · rw [if_pos y, if_pos y]
      · rw [if_neg y, if_neg y, if_pos (by omega), if_pos (by omega)]
    · rw [hc 1 (by omega) (by omega)]
  rcases h with ⟨a, b, d, e⟩ | ⟨a, b, d, e⟩ | ⟨a, b, d, e⟩
  · exact Or.inl ⟨a, b, d, fun t t0 t1 => by rw [← on t t0 t1]; exact e t t0 t1⟩
  · exact Or.inr (Or.inl ⟨a, b, by rw [← on v a b]; exact d, fun t t0 t1 => by rw [← on t t0 (by omega)]; exact e t t0 t1⟩)
  · exact Or.inr (Or.inr ⟨a, b, d, fun t t0 t1 => by rw [← on t t0 t1]; exact e t t0 t1⟩)
