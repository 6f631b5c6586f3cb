/-! the law: its script, its room -/
section AMR
variable {M : am_M} {bc bs bc' bs' pc pc' : Nat} {ls : List (Option am_V)} {st : List am_V} {ρ h : am_H} {Q : am_Q}
theorem am_WPle (hb : bc' ≤ bc) (hs : bs' ≤ bs) (k : am_WP M bc' bs' pc ls st ρ h Q) : am_WP M bc bs pc ls st ρ h Q := by
  intro p l e R s m args below meth c Z D cI cS A n0 ad0 Cx ad H locs cells slots lc rl os ol hl hcs hss
  exact k p l e R s m args below meth c Z D cI cS A n0 ad0 Cx ad H locs cells slots lc rl os ol hl (by omega) (by omega)
theorem am_slen {Lx : Nat} {xs : Int → Int} (hS : M.2.2.2.2.2 = some (Lx, xs)) (hd : decode M.2.1 pc = .ok (.arraylength, 1)) (hp : pc + 1 = pc') (kk : am_WP M bc bs pc' ls (am_I (Lx : Int) :: st) ρ h Q) : am_WP M bc bs pc ls (am_R (-1) :: st) ρ h Q := by
  subst hp
  intro p l e R s m args below meth c Z D cI cS A n0 ad0 Cx ad H locs cells slots lc rl os ol hl hcs hss
  have hn := Cx.1.2.2.2.2.2.2.2.1
  have hsc := Cx.1.2.2.2.2.2.2.2.2.1
  rw [hS] at hsc
  obtain ⟨hX, hbl, hbA, hL, hxs⟩ := hsc
  have ea : ad (-1) = ad0 (-1) := rl.2.2.1 (-1) (by omega)
  have kw := kk p l e R s m args below meth c Z D cI cS A n0 ad0 Cx ad H locs cells slots lc rl (am_okI1 ⟨by omega, by omega⟩ (am_okt os)) ol hl hcs hss
  rw [List.map_cons, am_c_R, ea]
  refine va_slen Cx.1.1.1 Cx.1.1.2.1 hX hbl hbA rl.2.2.2.2.2 hd ?_
  rw [List.map_cons, am_c_I, Int32.ofInt_eq_ofNat] at kw
  exact kw
theorem am_sld {Lx : Nat} {xs : Int → Int} {i : Int} (hS : M.2.2.2.2.2 = some (Lx, xs)) (hd : decode M.2.1 pc = .ok (.iaload, 1)) (hp : pc + 1 = pc') (h0 : 0 ≤ i) (h1 : i < (Lx : Int)) (kk : am_WP M bc bs pc' ls (am_I (xs i) :: st) ρ h Q) : am_WP M bc bs pc ls (am_I i :: am_R (-1) :: st) ρ h Q := by
  subst hp
  intro p l e R s m args below meth c Z D cI cS A n0 ad0 Cx ad H locs cells slots lc rl os ol hl hcs hss
  have hn := Cx.1.2.2.2.2.2.2.2.1
  have hsc := Cx.1.2.2.2.2.2.2.2.2.1
  rw [hS] at hsc
  obtain ⟨hX, hbl, hbA, hL, hxs⟩ := hsc
  have ea : ad (-1) = ad0 (-1) := rl.2.2.1 (-1) (by omega)
  have hi : am_okI i := am_okh os
  have kw := kk p l e R s m args below meth c Z D cI cS A n0 ad0 Cx ad H locs cells slots lc rl (am_okI1 (hxs i) (am_okt (am_okt os))) ol hl hcs hss
  rw [List.map_cons, List.map_cons, am_c_R, am_c_I, ea]
  refine va_sld Cx.1.1.1 Cx.1.1.2.1 hX hbl hbA rl.2.2.2.2.2 (by rw [show Lx = ((Lx : Int)).toNat by omega]; exact am_vin hi h0 h1) hd ?_
  rw [am_clamp hi h0, Int.toNat_of_nonneg h0]
  exact kw
end AMR
def lw_t (a b : Int) : Int := (Int64.ofInt (Int64.ofInt a <<< ((Int32.ofInt 32).toInt64 &&& 63)).toInt ||| Int64.ofInt (Int64.ofInt b &&& Int64.ofInt 4294967295).toInt).toInt
theorem lw_two {P : Prop} {r r' a b : Option am_V} (q1 : (¬ P ∧ r = a) ∨ (P ∧ r = b)) (q2 : (¬ P ∧ r' = a) ∨ (P ∧ r' = b)) : r = r' := by
  rcases q1 with ⟨z, e⟩ | ⟨z, e⟩ <;> rcases q2 with ⟨y, e'⟩ | ⟨y, e'⟩
  · rw [e, e']
  · exact absurd y z
  · exact absurd z y
  · rw [e, e']
theorem o_meet_fl {P B : Int} {nx c : Int → Int} {row k l fl fl' v f : Int} (hk : ¬ (0 ≤ k ∧ k < 4)) (h : o_meet P B nx row k l fl c v f) : o_meet P B nx row k l fl' c v f := by
  rcases h with h | h | ⟨_, z, _⟩ | ⟨_, z, _⟩ | ⟨_, z, _⟩ | ⟨_, z, _⟩
  · exact Or.inl h
  · exact Or.inr (Or.inl h)
  · exact absurd z hk
  · exact absurd z hk
  · exact absurd z hk
  · exact absurd z hk
theorem o_day_fl {P B : Int} {nx kd f0 c : Int → Int} {k l n w fl fl' v f : Int} (hk : ¬ (0 ≤ k ∧ k < 4)) (h : o_day P B nx kd f0 k l n w fl c v f) : o_day P B nx kd f0 k l n w fl' c v f := by
  rcases h with h | ⟨z, _⟩ | ⟨z, _⟩ | ⟨z, _⟩ | ⟨z, _⟩ | ⟨z, _⟩
  · exact Or.inl h
  · exact absurd z hk
  · exact absurd z hk
  · exact absurd z hk
  · exact absurd z hk
  · exact absurd z hk
