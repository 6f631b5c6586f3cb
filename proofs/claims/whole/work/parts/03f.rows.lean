/-! rows of ints, rows of sheets, new cells -/
theorem am_vin {i len : Int} (hi : am_okI i) (h0 : 0 ≤ i) (h1 : i < len) : vp_in (Int32.ofInt i) len.toNat := by
  rw [vp_in_iff, am_toInt hi]
  exact ⟨h0, by omega⟩
theorem am_clamp {i : Int} (hi : am_okI i) (h0 : 0 ≤ i) : (Int32.ofInt i).toNatClampNeg = i.toNat := by
  show (Int32.ofInt i).toInt.toNat = _
  rw [am_toInt hi]
theorem am_okIx {i len : Int} (h0 : 0 ≤ i) (h1 : i < len) (h2 : len < 2147483648) : am_okI i := ⟨by omega, by omega⟩
/-- a row written over by another's cells -/
def am_cpy (h : am_H) (a sp b dp n : Int) : am_H := fun y j => if y = b ∧ dp ≤ j ∧ j < dp + n then h a (sp + (j - dp)) else h y j
section AMR
variable {M : am_M} {bc bs pc pc' tgt : Nat} {ls ls' : List (Option am_V)} {st st' : List am_V} {ρ h : am_H} {Q : am_Q}
theorem am_iaload {a i : Int} (hd : decode M.2.1 pc = .ok (.iaload, 1)) (hp : pc + 1 = pc') (ha : am_in ρ a 8) (h0 : 0 ≤ i) (h1 : i < ρ a (-1)) (kk : am_WP M bc bs pc' ls (am_I (h a i) :: st) ρ h Q) : am_WP M bc bs pc ls (am_I i :: am_R a :: st) ρ h Q := by
  subst hp
  intro p l e R s m args below meth c Z D cI cS A n0 ad0 Cx ad H locs cells slots lc rl os ol hl hcs hss
  have he := am_ws_get (cI := cI) (cS := cS) (ad := ad) (h := h) ha.1 ha.2.1
  rw [am_E_arr ha.2.2] at he
  have hi : am_okI i := am_okh os
  refine va_iald Cx.1.1.1 Cx.1.1.2.1 Cx.1.2.2.2.1 rl.2.2.2.1 _ 0 he rfl (am_vin hi h0 h1) hd ?_
  have kw := kk p l e R s m args below meth c Z D cI cS A n0 ad0 Cx ad H locs cells slots lc rl (am_okI1 (rl.1.2.1 a i) (am_okt (am_okt os))) ol hl hcs hss
  rw [am_clamp hi h0, Int.toNat_of_nonneg h0]
  exact kw
theorem am_iastore {a i v : Int} (hd : decode M.2.1 pc = .ok (.iastore, 1)) (hp : pc + 1 = pc') (ha : am_in ρ a 8) (h0 : 0 ≤ i) (h1 : i < ρ a (-1)) (kk : am_WP M bc bs pc' ls st ρ (am_u h a i v) Q) : am_WP M bc bs pc ls (am_I v :: am_I i :: am_R a :: st) ρ h Q := by
  subst hp
  intro p l e R s m args below meth c Z D cI cS A n0 ad0 Cx ad H locs cells slots lc rl os ol hl hcs hss
  have he := am_ws_get (cI := cI) (cS := cS) (ad := ad) (h := h) ha.1 ha.2.1
  rw [am_E_arr ha.2.2] at he
  have hi : am_okI i := am_okh (am_okt os)
  have hE : am_ws cI cS ad ρ (am_u h a i v) = (am_ws cI cS ad ρ h).set (a.toNat - 1) (ad a, .inl (cI, (ρ a (-1)).toNat, .inl (upd (fun j => Int32.ofInt (h a j)) (Int32.ofInt i).toNatClampNeg (Int32.ofInt v)))) := by
    rw [am_ws_u rl.1 ha.1, am_E_arr ha.2.2, am_clamp hi h0]
    have e9 : (fun j : Nat => Int32.ofInt (am_u h a i v a j)) = upd (fun j => Int32.ofInt (h a j)) i.toNat (Int32.ofInt v) := by
      funext j
      unfold upd am_u
      by_cases hj : j = i.toNat
      · rw [if_pos hj, if_pos ⟨rfl, by omega⟩]
      · rw [if_neg hj, if_neg (by omega)]
    rw [e9]
  refine va_iast Cx.1.1.1 Cx.1.1.2.1 Cx.1.2.2.2.1 rl.2.2.2.1 rl.2.2.2.2.1 rl.2.2.2.2.2 _ 0 he rfl (am_vin hi h0 h1) hd (fun H1 locs1 hP1 hD1 hS1 => ?_)
  exact kk p l e R s m args below meth c Z D cI cS A n0 ad0 Cx ad H1 locs1 cells slots lc ⟨am_rng_u rl.1 (am_okh os), rl.2.1, rl.2.2.1, by rw [hE]; exact hP1, by rw [hE]; exact hD1, hS1⟩ (am_okt (am_okt (am_okt os))) ol hl hcs hss
theorem am_alen {a n : Int} (hd : decode M.2.1 pc = .ok (.arraylength, 1)) (hp : pc + 1 = pc') (ha : am_in ρ a 8) (hn : ρ a (-1) = n) (kk : am_WP M bc bs pc' ls (am_I n :: st) ρ h Q) : am_WP M bc bs pc ls (am_R a :: st) ρ h Q := by
  subst hp
  subst hn
  intro p l e R s m args below meth c Z D cI cS A n0 ad0 Cx ad H locs cells slots lc rl os ol hl hcs hss
  have he := am_ws_get (cI := cI) (cS := cS) (ad := ad) (h := h) ha.1 ha.2.1
  rw [am_E_arr ha.2.2] at he
  have hln := rl.1.2.2.1 a
  refine va_alen (v := Int32.ofInt (ρ a (-1))) Cx.1.1.1 Cx.1.1.2.1 Cx.1.2.2.2.1 rl.2.2.2.1 _ 0 he rfl ?_ hd (kk p l e R s m args below meth c Z D cI cS A n0 ad0 Cx ad H locs cells slots lc rl (am_okI1 ⟨by omega, by omega⟩ (am_okt os)) ol hl hcs hss)
  show Int32.ofNat (ρ a (-1)).toNat = _
  rw [← Int32.ofInt_eq_ofNat, Int.toNat_of_nonneg hln.1]
theorem am_alenS {a n : Int} (hd : decode M.2.1 pc = .ok (.arraylength, 1)) (hp : pc + 1 = pc') (ha : am_in ρ a 9) (hn : ρ a (-1) = n) (kk : am_WP M bc bs pc' ls (am_I n :: st) ρ h Q) : am_WP M bc bs pc ls (am_R a :: st) ρ h Q := by
  subst hp
  subst hn
  intro p l e R s m args below meth c Z D cI cS A n0 ad0 Cx ad H locs cells slots lc rl os ol hl hcs hss
  have he := am_ws_get (cI := cI) (cS := cS) (ad := ad) (h := h) ha.1 ha.2.1
  rw [am_E_shs ha.2.2] at he
  have hln := rl.1.2.2.1 a
  refine va_alen (v := Int32.ofInt (ρ a (-1))) Cx.1.1.1 Cx.1.1.2.1 Cx.1.2.2.2.1 rl.2.2.2.1 _ 1 he rfl ?_ hd (kk p l e R s m args below meth c Z D cI cS A n0 ad0 Cx ad H locs cells slots lc rl (am_okI1 ⟨by omega, by omega⟩ (am_okt os)) ol hl hcs hss)
  show Int32.ofNat (ρ a (-1)).toNat = _
  rw [← Int32.ofInt_eq_ofNat, Int.toNat_of_nonneg hln.1]
theorem am_aaload {a i y : Int} (hd : decode M.2.1 pc = .ok (.aaload, 1)) (hp : pc + 1 = pc') (ha : am_in ρ a 9) (h0 : 0 ≤ i) (h1 : i < ρ a (-1)) (hy : ρ a i = y) (hy0 : 0 < y) (kk : am_WP M bc bs pc' ls (am_R y :: st) ρ h Q) : am_WP M bc bs pc ls (am_I i :: am_R a :: st) ρ h Q := by
  subst hp
  intro p l e R s m args below meth c Z D cI cS A n0 ad0 Cx ad H locs cells slots lc rl os ol hl hcs hss
  have he := am_ws_get (cI := cI) (cS := cS) (ad := ad) (h := h) ha.1 ha.2.1
  rw [am_E_shs ha.2.2] at he
  have hi : am_okI i := am_okh os
  have hyn : y < ρ 0 0 := by rw [← hy]; exact (rl.1.2.2.2 a i ha.1 h0).2
  refine va_aldq Cx.1.1.1 Cx.1.1.2.1 Cx.1.2.2.2.1 rl.2.2.2.1 _ 1 he rfl (am_vin hi h0 h1) hd ?_
  have kw := kk p l e R s m args below meth c Z D cI cS A n0 ad0 Cx ad H locs cells slots lc rl (am_okR1 hyn (am_okt (am_okt os))) ol hl hcs hss
  rw [am_clamp hi h0, Int.toNat_of_nonneg h0, hy, if_neg (by omega)]
  exact kw
theorem am_aastore {a i v : Int} (hd : decode M.2.1 pc = .ok (.aastore, 1)) (hp : pc + 1 = pc') (ha : am_in ρ a 9) (hv : am_in ρ v 4) (h0 : 0 ≤ i) (h1 : i < ρ a (-1)) (kk : am_WP M bc bs pc' ls st (am_u ρ a i v) h Q) : am_WP M bc bs pc ls (am_R v :: am_I i :: am_R a :: st) ρ h Q := by
  subst hp
  intro p l e R s m args below meth c Z D cI cS A n0 ad0 Cx ad H locs cells slots lc rl os ol hl hcs hss
  have he := am_ws_get (cI := cI) (cS := cS) (ad := ad) (h := h) ha.1 ha.2.1
  rw [am_E_shs ha.2.2] at he
  have hev := am_ws_get (cI := cI) (cS := cS) (ad := ad) (h := h) hv.1 hv.2.1
  rw [am_E_obj hv.2.2 (by decide)] at hev
  have hi : am_okI i := am_okh (am_okt os)
  have en : am_u ρ a i v 0 0 = ρ 0 0 := am_u_n (by have := ha.1; omega)
  have hE : am_ws cI cS ad (am_u ρ a i v) h = (am_ws cI cS ad ρ h).set (a.toNat - 1) (ad a, .inl (cS, (ρ a (-1)).toNat, .inr (.inr (.inr (.inr (va_up (fun j : Nat => if ρ a j = 0 then none else some (ad (ρ a j))) (Int32.ofInt i).toNatClampNeg (some (ad v)))))))) := by
    rw [am_ws_ur rl.1 ha.1, am_E_shs ha.2.2, am_clamp hi h0, am_u_n (by omega)]
    have e9 : (fun j : Nat => if am_u ρ a i v a j = 0 then none else some (ad (am_u ρ a i v a j))) = va_up (fun j : Nat => if ρ a j = 0 then none else some (ad (ρ a j))) i.toNat (some (ad v)) := by
      funext j
      have := hv.1
      by_cases hj : j = i.toNat
      · have e8 : am_u ρ a i v a j = v := by unfold am_u; rw [if_pos ⟨rfl, by omega⟩]
        rw [e8, if_neg (by omega)]
        simp [va_up, hj]
      · have e8 : am_u ρ a i v a j = ρ a j := am_u_n (by omega)
        rw [e8]
        simp [va_up, hj]
    rw [e9]
  refine va_astq (r := (RX4, TX4, 3)) Cx.1.1.1 Cx.1.1.2.1 Cx.1.2.2.2.1 rl.2.2.2.1 rl.2.2.2.2.1 rl.2.2.2.2.2 _ 1 _ 4 he rfl hev rfl (am_vin hi h0 h1) hd (fun H1 locs1 hP1 hD1 hS1 => ?_)
  exact kk p l e R s m args below meth c Z D cI cS A n0 ad0 Cx ad H1 locs1 cells slots lc ⟨am_rng_ur rl.1 ha.1 h0 (by have := hv.1; omega) hv.2.1, by rw [en]; exact rl.2.1, rl.2.2.1, by rw [hE]; exact hP1, by rw [hE]; exact hD1, hS1⟩ (by rw [en]; exact am_okt (am_okt (am_okt os))) (by rw [en]; exact ol) hl hcs hss
theorem am_acopy {a b sp dp n : Int} {idx : Nat} (hd : decode M.2.1 pc = .ok (.invokestatic idx, 3)) (hp : pc + 3 = pc') (lk : am_T (.methodLink M.1.cls idx arraycopyName)) (w1 : am_T (.native arraycopyName)) (w2 : am_T (.static arraycopyName)) (w3 : am_T (.initialized "java/lang/System")) (ha : am_in ρ a 8) (hb : am_in ρ b 8)
    (h0 : 0 ≤ sp) (h1 : 0 ≤ dp) (h2 : 0 ≤ n) (h3 : sp + n ≤ ρ a (-1)) (h4 : dp + n ≤ ρ b (-1)) (hlev : (1 ≤ M.2.2.2.2.1)) (hrest : st = []) (kk : am_WP M bc bs pc' ls st ρ (am_cpy h a sp b dp n) Q) : am_WP M bc bs pc ls (am_I n :: am_I dp :: am_R b :: am_I sp :: am_R a :: st) ρ h Q := by
  subst hp
  subst hrest
  intro p l e R s m args below meth c Z D cI cS A n0 ad0 Cx ad H locs cells slots lc rl os ol hl hcs hss
  have hea := am_ws_get (cI := cI) (cS := cS) (ad := ad) (h := h) ha.1 ha.2.1
  rw [am_E_arr ha.2.2] at hea
  have heb := am_ws_get (cI := cI) (cS := cS) (ad := ad) (h := h) hb.1 hb.2.1
  rw [am_E_arr hb.2.2] at heb
  have kn : am_okI n := am_okh os
  have kd : am_okI dp := am_okh (am_okt os)
  have ks : am_okI sp := am_okh (am_okt (am_okt (am_okt os)))
  have hrng : am_rng ρ (am_cpy h a sp b dp n) := by
    refine ⟨rl.1.1, fun y j => ?_, rl.1.2.2⟩
    unfold am_cpy
    split
    · exact rl.1.2.1 _ _
    · exact rl.1.2.1 _ _
  have hE : am_ws cI cS ad ρ (am_cpy h a sp b dp n) = (am_ws cI cS ad ρ h).set (b.toNat - 1) (ad b, .inl (cI, (ρ b (-1)).toNat, .inl (va_cpy (fun j => Int32.ofInt (h a j)) (fun j => Int32.ofInt (h b j)) (Int32.ofInt sp).toNatClampNeg (Int32.ofInt dp).toNatClampNeg (Int32.ofInt n).toNatClampNeg))) := by
    rw [am_ws_set (ρ := ρ) (h := h) hb.1 rfl (fun y hy hyx => am_E_ext (n := ρ 0 0) hy (fun j hj => (rl.1.2.2.2 y j hy hj).2) (fun _ _ => rfl) (fun _ => rfl) (fun j _ => by unfold am_cpy; rw [if_neg (by omega)])), am_E_arr hb.2.2, am_clamp ks h0, am_clamp kd h1, am_clamp kn h2]
    have e9 : (fun j : Nat => Int32.ofInt (am_cpy h a sp b dp n b j)) = va_cpy (fun j => Int32.ofInt (h a j)) (fun j => Int32.ofInt (h b j)) sp.toNat dp.toNat n.toNat := by
      funext j
      unfold va_cpy am_cpy
      by_cases hj : dp.toNat ≤ j ∧ j < dp.toNat + n.toNat
      · rw [if_pos hj, if_pos ⟨rfl, by omega, by omega⟩]
        congr 2
        omega
      · rw [if_neg hj, if_neg (by omega)]
    rw [e9]
  have hR : R.frames = M.2.2.2.2.1 := Cx.1.2.2.2.2.2.1
  have hL : R.locals = 36 * M.2.2.2.2.1 := Cx.1.2.2.2.2.2.2.1
  refine va_copyi Cx.1.1.1 Cx.1.1.2.1 (Cx.1.1.2.2.1.trans hl.1.symm) Cx.1.1.2.2.2 (Cx.1.2.1 _ lk) (Cx.1.2.1 _ w1) (Cx.1.2.1 _ w2) (Cx.1.2.1 _ w3) Cx.1.2.2.2.1 rl.2.2.2.1 rl.2.2.2.2.1 rl.2.2.2.2.2 _ _ 0 0 (ty := .int) hea heb rfl rfl rfl (by rw [am_lt0 ks]; omega) (by rw [am_lt0 kd]; omega) (by rw [am_lt0 kn]; omega) (by rw [am_clamp ks h0, am_clamp kn h2]; omega) (by rw [am_clamp kd h1, am_clamp kn h2]; omega) (fun _ _ => rfl) (by omega) (by
      rw [hL]
      refine Nat.le_trans (m := 36) ?_ (by omega)
      show 0 + (nativeFrameWords "java/lang/System" "arraycopy" 5 + 11) ≤ 36
      decide +kernel) hd (fun H1 locs1 hP1 hD1 hS1 => ?_)
  exact kk p l e R s m args below meth c Z D cI cS A n0 ad0 Cx ad H1 locs1 cells slots lc ⟨hrng, rl.2.1, rl.2.2.1, by rw [hE]; exact hP1, by rw [hE]; exact hD1, hS1⟩ (fun v hv => by cases hv) ol hl hcs hss
end AMR
