/-! new cells -/
theorem am_newR_n {ρ : am_H} (n : Int) (h0 : 0 < ρ 0 0) : am_newR ρ n 0 0 = ρ 0 0 + 1 := by
  unfold am_newR
  rw [if_neg (by omega), if_pos ⟨rfl, rfl⟩]
theorem am_newR_o {ρ : am_H} {n y j : Int} (h0 : 0 < y) (h1 : y ≠ ρ 0 0) : am_newR ρ n y j = ρ y j := by
  unfold am_newR
  rw [if_neg h1, if_neg (by omega)]
theorem am_rng_new {ρ h : am_H} {n : Int} (hr : am_rng ρ h) (h0 : 0 ≤ n) (h1 : n < 2147483648) : am_rng (am_newR ρ n) (am_newH ρ h) := by
  have hp := hr.1
  refine ⟨by rw [am_newR_n n hp]; omega, fun y j => ?_, fun y => ?_, fun y j hy hj => ?_⟩
  · unfold am_newH
    split
    · exact am_ok0
    · exact hr.2.1 y j
  · unfold am_newR
    split
    · rw [if_pos rfl]; exact ⟨h0, h1⟩
    · rw [if_neg (by omega)]; exact hr.2.2.1 y
  · rw [am_newR_n n hp]
    by_cases hy2 : y = ρ 0 0
    · unfold am_newR
      rw [if_pos hy2, if_neg (by omega)]
      omega
    · rw [am_newR_o hy hy2]
      have := hr.2.2.2 y j hy hj
      omega
theorem am_ws_new {cI cS : ClassId} {ad : Int → Nat} {ρ h : am_H} {n : Int} (q : Nat) (hr : am_rng ρ h) : am_ws cI cS (fun y => if y = ρ 0 0 then q else ad y) (am_newR ρ n) (am_newH ρ h) = am_ws cI cS ad ρ h ++ [(q, am_E cI cS (fun y => if y = ρ 0 0 then q else ad y) (am_newR ρ n) (am_newH ρ h) (ρ 0 0))] := by
  have e := am_ws_push (cI := cI) (cS := cS) (ad := ad) (ad' := fun y => if y = ρ 0 0 then q else ad y) (ρ := ρ) (h := h) (ρ' := am_newR ρ n) (h' := am_newH ρ h) hr.1 (am_newR_n n hr.1) (fun y hy => by simp; intro z; omega) (fun y hy hy2 => am_E_ext (n := ρ 0 0) hy (fun j hj => (hr.2.2.2 y j hy hj).2) (fun z hz => by simp; intro w; omega) (fun j => am_newR_o hy (by omega)) (fun j _ => by unfold am_newH; rw [if_neg (by omega)]))
  simpa using e
section AMR
variable {M : am_M} {bc bs pc pc' tgt : Nat} {ls ls' : List (Option am_V)} {st st' : List am_V} {ρ h : am_H} {Q : am_Q}
theorem am_newarr {n : Int} (hd : decode M.2.1 pc = .ok (.newarray .int, 2)) (hp : pc + 2 = pc') (hw : am_T (.arrayClass .int)) (h0 : 0 ≤ n) (h1 : n ≤ 100000000) (hk : am_K (ρ 0 0) = 8) (kk : am_WP M bc bs pc' ls (am_R (ρ 0 0) :: st) (am_newR ρ n) (am_newH ρ h) Q) : am_WP M (bc + 1) (bs + n.toNat) pc ls (am_I n :: st) ρ h Q := by
  subst hp
  intro p l e R s m args below meth c Z D cI cS A n0 ad0 Cx ad H locs cells slots lc rl os ol hl hcs hss
  have hp0 := rl.1.1
  have kn : am_okI n := am_okh os
  refine va_newa (atype := .int) (ty := .int) (a0 := (n.toNat, .inl (fun _ => 0))) Cx.1.1.1 Cx.1.1.2.1 (Cx.1.2.1 _ hw) rfl Cx.1.2.2.2.1 rl.2.2.2.1 rl.2.2.2.2.1 rl.2.2.2.2.2 Cx.1.2.2.2.2.1 (fun _ => rfl) (by rw [am_lt0 kn]; omega) (am_clamp kn h0) (by show n.toNat * 4 ≤ _; omega) (by omega) (by omega) hd (fun q cA H1 hK1 hP1 hD1 hS1 => ?_)
  have hcA : cA = cI := by
    have e1 := (hK1.2 2 (cA, .int) rfl).2
    have e2 := (Cx.1.2.2.2.1.2 0 (cI, .int) rfl).2
    exact Option.some.inj (e1.symm.trans e2)
  subst hcA
  have hE := am_ws_new (cI := cA) (cS := cS) (ad := ad) (n := n) q rl.1
  have hEn : am_E cA cS (fun y => if y = ρ 0 0 then q else ad y) (am_newR ρ n) (am_newH ρ h) (ρ 0 0) = .inl (cA, n.toNat, .inl (fun _ => 0)) := by
    rw [am_E_arr hk]
    have e1 : am_newR ρ n (ρ 0 0) (-1) = n := by unfold am_newR; rw [if_pos rfl, if_pos rfl]
    have e2 : (fun j : Nat => Int32.ofInt (am_newH ρ h (ρ 0 0) j)) = fun _ => 0 := by funext j; unfold am_newH; rw [if_pos rfl]; exact am_0
    rw [e1, e2]
  rw [hEn] at hE
  have hag : ∀ x, x < ρ 0 0 → (fun y => if y = ρ 0 0 then q else ad y) x = ad x := fun x hx => by simp; intro z; omega
  have en := am_newR_n n hp0
  have kw := kk p l e R s m args below meth c Z D cA cS A n0 ad0 Cx (fun y => if y = ρ 0 0 then q else ad y) H1 locs (cells + 1) (slots + n.toNat) lc ⟨am_rng_new rl.1 h0 (by omega), by rw [en]; have := rl.2.1; omega, fun x hx => by rw [hag x (by have := rl.2.1; omega)]; exact rl.2.2.1 x hx, by rw [hE]; exact hP1, by rw [hE]; exact hD1, hS1⟩
    (am_okR1 (by rw [en]; omega) (fun v hv => am_okV_mono (by rw [en]; omega) (am_okt os v hv))) (fun v hv => am_okV_mono (by rw [en]; omega) (ol v hv)) (by rw [am_lv_ext (ρ 0 0) hag ls 0 ol]; exact hl) (by omega) (by omega)
  rw [List.map_cons, am_c_R, am_st_ext hag (am_okt os)] at kw
  simpa using kw
theorem am_newsh {n : Int} {idx : Nat} (hd : decode M.2.1 pc = .ok (.anewarray idx, 3)) (hp : pc + 3 = pc') (hw : am_T (.classLink M.1.cls idx RX4)) (h0 : 0 ≤ n) (h1 : n ≤ 100000000) (hk : am_K (ρ 0 0) = 9) (kk : am_WP M bc bs pc' ls (am_R (ρ 0 0) :: st) (am_newR ρ n) (am_newH ρ h) Q) : am_WP M (bc + 1) (bs + n.toNat) pc ls (am_I n :: st) ρ h Q := by
  subst hp
  intro p l e R s m args below meth c Z D cI cS A n0 ad0 Cx ad H locs cells slots lc rl os ol hl hcs hss
  have hp0 := rl.1.1
  have kn : am_okI n := am_okh os
  refine va_newq (C := RX4) (N' := n.toNat) Cx.1.1.1 Cx.1.1.2.1 Cx.1.1.2.2.2 (Cx.1.2.1 _ hw) Cx.1.2.2.2.2.2.2.2.2.2.2 Cx.1.2.2.2.1 rl.2.2.2.1 rl.2.2.2.2.1 rl.2.2.2.2.2 Cx.1.2.2.2.2.1 (by rw [am_lt0 kn]; omega) (am_clamp kn h0) (by omega) (by omega) (by omega) hd (fun q cA H1 hK1 hP1 hD1 hS1 => ?_)
  have hcA : cA = cS := by
    obtain ⟨_, _, _, _, _, e1⟩ := (hK1.2 2 (cA, .object RX4) rfl).2
    obtain ⟨_, _, _, _, _, e2⟩ := (Cx.1.2.2.2.1.2 1 (cS, .object RX4) rfl).2
    exact Option.some.inj (e1.symm.trans e2)
  subst hcA
  have hE := am_ws_new (cI := cI) (cS := cA) (ad := ad) (n := n) q rl.1
  have hEn : am_E cI cA (fun y => if y = ρ 0 0 then q else ad y) (am_newR ρ n) (am_newH ρ h) (ρ 0 0) = .inl (cA, n.toNat, .inr (.inr (.inr (.inr (fun _ => none))))) := by
    rw [am_E_shs hk]
    have e1 : am_newR ρ n (ρ 0 0) (-1) = n := by unfold am_newR; rw [if_pos rfl, if_pos rfl]
    have e2 : ∀ j : Nat, am_newR ρ n (ρ 0 0) j = 0 := fun j => by unfold am_newR; rw [if_pos rfl, if_neg (by omega)]
    rw [e1]
    simp [e2]
  rw [hEn] at hE
  have hag : ∀ x, x < ρ 0 0 → (fun y => if y = ρ 0 0 then q else ad y) x = ad x := fun x hx => by simp; intro z; omega
  have en := am_newR_n n hp0
  have kw := kk p l e R s m args below meth c Z D cI cA A n0 ad0 Cx (fun y => if y = ρ 0 0 then q else ad y) H1 locs (cells + 1) (slots + n.toNat) lc ⟨am_rng_new rl.1 h0 (by omega), by rw [en]; have := rl.2.1; omega, fun x hx => by rw [hag x (by have := rl.2.1; omega)]; exact rl.2.2.1 x hx, by rw [hE]; exact hP1, by rw [hE]; exact hD1, hS1⟩
    (am_okR1 (by rw [en]; omega) (fun v hv => am_okV_mono (by rw [en]; omega) (am_okt os v hv))) (fun v hv => am_okV_mono (by rw [en]; omega) (ol v hv)) (by rw [am_lv_ext (ρ 0 0) hag ls 0 ol]; exact hl) (by omega) (by omega)
  rw [List.map_cons, am_c_R, am_st_ext hag (am_okt os)] at kw
  simpa using kw
theorem am_new {idx ci N : Nat} {C : String} {T : u_T} (hd : decode M.2.1 pc = .ok (.new idx, 3)) (hp : pc + 3 = pc') (hc : vwCl[ci]? = some (C, T, N)) (hw : am_T (.classLink M.1.cls idx C)) (hw2 : am_T (.instantiable C N)) (hw3 : am_T (.initialized C)) (hk : am_K (ρ 0 0) = ci) (kk : am_WP M bc bs pc' ls (am_R (ρ 0 0) :: st) (am_newR ρ 0) (am_newH ρ h) Q) : am_WP M (bc + 1) (bs + N) pc ls st ρ h Q := by
  subst hp
  obtain ⟨hin, hty, hnm, hN, h8⟩ := am_cls hc
  intro p l e R s m args below meth c Z D cI cS A n0 ad0 Cx ad H locs cells slots lc rl os ol hl hcs hss
  have hp0 := rl.1.1
  have e2 : ∀ j : Nat, am_newR ρ 0 (ρ 0 0) j = 0 := fun j => by unfold am_newR; rw [if_pos rfl, if_neg (by omega)]
  have e3 : ∀ j : Nat, am_newH ρ h (ρ 0 0) j = 0 := fun j => by unfold am_newH; rw [if_pos rfl]
  refine va_new (ci := ci) (fs := (List.range N).map (am_fv ad (am_newR ρ 0) (am_newH ρ h) ci (ρ 0 0))) Cx.1.1.1 Cx.1.1.2.1 (am_hts Cx.1.2.1) hin (am_ty ci) hty Cx.1.1.2.2.2 (Cx.1.2.1 _ hw) (Cx.1.2.1 _ hw2) (Cx.1.2.1 _ hw3) Cx.1.2.2.2.1 rl.2.2.2.1 rl.2.2.2.2.1 rl.2.2.2.2.2 Cx.1.2.2.2.2.1 hc (fun j hj => ?_) (by omega) (by omega) hd (fun q H1 hP1 hD1 hS1 => ?_)
  · have e4 : vp_V ((List.range N).map (am_fv ad (am_newR ρ 0) (am_newH ρ h) ci (ρ 0 0))) j = am_fv ad (am_newR ρ 0) (am_newH ρ h) ci (ρ 0 0) j := by
      unfold vp_V
      rw [List.getD_eq_getElem?_getD, List.getElem?_map, List.getElem?_range hj]
      rfl
    rw [e4]
    unfold am_fv
    cases hI : am_isI ci j with
    | true => rw [am_tyI0 ci h8 j (by omega) hI, if_pos rfl, e3, am_0]; rfl
    | false => rw [(am_tyR0 ci h8 j (by omega) hI).1, if_neg (by decide), if_pos (e2 j)]
  have hE := am_ws_new (cI := cI) (cS := cS) (ad := ad) (n := 0) q rl.1
  have hEn : am_E cI cS (fun y => if y = ρ 0 0 then q else ad y) (am_newR ρ 0) (am_newH ρ h) (ρ 0 0) = .inr (ci, (List.range N).map (am_fv ad (am_newR ρ 0) (am_newH ρ h) ci (ρ 0 0))) := by
    rw [am_E_obj hk h8, hN]
    congr 2
    apply List.map_congr_left
    intro j _
    unfold am_fv
    rw [e2]
    simp
  rw [hEn] at hE
  have hag : ∀ x, x < ρ 0 0 → (fun y => if y = ρ 0 0 then q else ad y) x = ad x := fun x hx => by simp; intro z; omega
  have en := am_newR_n 0 hp0
  have kw := kk p l e R s m args below meth c Z D cI cS A n0 ad0 Cx (fun y => if y = ρ 0 0 then q else ad y) H1 locs (cells + 1) (slots + N) lc ⟨am_rng_new rl.1 (by omega) (by omega), by rw [en]; have := rl.2.1; omega, fun x hx => by rw [hag x (by have := rl.2.1; omega)]; exact rl.2.2.1 x hx, by rw [hE]; exact hP1, by rw [hE]; exact hD1, hS1⟩
    (am_okR1 (by rw [en]; omega) (fun v hv => am_okV_mono (by rw [en]; omega) (os v hv))) (fun v hv => am_okV_mono (by rw [en]; omega) (ol v hv)) (by rw [am_lv_ext (ρ 0 0) hag ls 0 ol]; exact hl) (by omega) (by omega)
  rw [List.map_cons, am_c_R, am_st_ext hag os] at kw
  simpa using kw
theorem am_obji {x : Int} {idx : Nat} (hd : decode M.2.1 pc = .ok (.invokespecial idx, 3)) (hp : pc + 3 = pc') (hw : am_T (.methodLink M.1.cls idx objectInit)) (hw2 : am_T (.instanceMethod objectInit)) (hw3 : am_T (.code objectInit ⟨#[0xb1]⟩ 1 none)) (hlev : 1 ≤ M.2.2.2.2.1) (hrest : st = []) (kk : am_WP M bc bs pc' ls st ρ h Q) : am_WP M bc bs pc ls (am_R x :: st) ρ h Q := by
  subst hp
  subst hrest
  intro p l e R s m args below meth c Z D cI cS A n0 ad0 Cx ad H locs cells slots lc rl os ol hl hcs hss
  have hR : R.frames = M.2.2.2.2.1 := Cx.1.2.2.2.2.2.1
  have hL : R.locals = 36 * M.2.2.2.2.1 := Cx.1.2.2.2.2.2.2.1
  refine W.objInit Cx.1.1.1 Cx.1.1.2.1 Cx.1.1.2.2.2 (Cx.1.2.1 _ hw) (Cx.1.2.1 _ hw2) (Cx.1.2.1 _ hw3) rfl (hl.1.trans Cx.1.1.2.2.1.symm) rfl hd (by omega) (by show 2 * 0 + 0 + 12 ≤ _; omega) ?_
  exact kk p l e R s m args below meth c Z D cI cS A n0 ad0 Cx ad H locs cells slots lc rl (am_okt os) ol hl hcs hss
/-! ends -/
theorem am_retv (hd : decode M.2.1 pc = .ok (.return_, 1)) (hr : M.2.2.2.1 = none) (hq : Q none ρ h) : am_WP M bc bs pc ls [] ρ h Q := by
  intro p l e R s m args below meth c Z D cI cS A n0 ad0 Cx ad H locs cells slots lc rl os ol hl hcs hss
  exact Cx.2 none ρ h ad H locs cells slots lc pc hq (Or.inl ⟨rfl, hr, hd⟩) rl (fun v z => by cases z) (by omega) (by omega)
theorem am_reti {v : Int} (hd : decode M.2.1 pc = .ok (.ireturn, 1)) (hr : M.2.2.2.1 = some .int) (hq : Q (some (am_I v)) ρ h) : am_WP M bc bs pc ls [am_I v] ρ h Q := by
  intro p l e R s m args below meth c Z D cI cS A n0 ad0 Cx ad H locs cells slots lc rl os ol hl hcs hss
  exact Cx.2 (some (am_I v)) ρ h ad H locs cells slots lc pc hq (Or.inr (Or.inl ⟨v, rfl, hr, hd⟩)) rl (fun w z => by cases z; exact am_okh os) (by omega) (by omega)
theorem am_retz {v : Int} (hd : decode M.2.1 pc = .ok (.ireturn, 1)) (hr : M.2.2.2.1 = some .boolean) (hv : v = 0 ∨ v = 1) (hq : Q (some (am_I v)) ρ h) : am_WP M bc bs pc ls [am_I v] ρ h Q := by
  intro p l e R s m args below meth c Z D cI cS A n0 ad0 Cx ad H locs cells slots lc rl os ol hl hcs hss
  exact Cx.2 (some (am_I v)) ρ h ad H locs cells slots lc pc hq (Or.inr (Or.inr (Or.inl ⟨v, rfl, hv, hr, hd⟩))) rl (fun w z => by cases z; exact am_okh os) (by omega) (by omega)
theorem am_retl {v : Int} (hd : decode M.2.1 pc = .ok (.lreturn, 1)) (hr : M.2.2.2.1 = some .long) (hq : Q (some (am_L v)) ρ h) : am_WP M bc bs pc ls [am_L v] ρ h Q := by
  intro p l e R s m args below meth c Z D cI cS A n0 ad0 Cx ad H locs cells slots lc rl os ol hl hcs hss
  exact Cx.2 (some (am_L v)) ρ h ad H locs cells slots lc pc hq (Or.inr (Or.inr (Or.inr ⟨v, rfl, hr, hd⟩))) rl (fun w z => by cases z; exact am_okh os) (by omega) (by omega)
end AMR
