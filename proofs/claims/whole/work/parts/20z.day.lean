/-! the model: day, whole -/
/-- what is seen of the model stays, but for the fault -/
def md_frF (f : Int) (h h' : am_H) : Prop := (∀ x j, x ≠ 38 → ¬ (40 ≤ x ∧ x ≤ 50) → x ≠ 57 → h' x j = h x j) ∧ (∀ p, 0 ≤ p → p < h 38 1 → h' 40 p = h 40 p) ∧ (∀ j, j = 1 ∨ j = 2 ∨ j = 3 ∨ j = 23 ∨ j = 31 → h' 38 j = h 38 j) ∧ h' 38 0 = f
theorem md_frF_u {h : am_H} {f : Int} : md_frF f h (am_u h 38 0 f) := ⟨fun x j z _ _ => am_u_n (by omega), fun p _ _ => am_u_n (by omega), fun j z => am_u_n (by omega), am_u_s _ _ _ _⟩
theorem t8_day_3 {ρ h h2 : am_H} {k l i n w b v : Int} {v10 : Option am_V} {Q : am_Q} (hM : am_LM ρ) (hP : 0 ≤ h 38 1 ∧ h 38 1 ≤ 5) (hd : md_dfr h h2) (h50 : ∀ p, 0 ≤ p → p < h 38 1 → h 50 p = h 40 p) (hq : ∀ h', md_frF 0 h h' → Q (some (am_I v)) ρ h') :
    ∀ (m : Nat) (x : Int) (h3 : am_H), (h 38 1 - x).toNat < m → 0 ≤ x → x ≤ h 38 1 → am_fr [40] h2 h3 → (∀ p, 0 ≤ p → p < x → h3 40 p = h2 50 p) → am_WP mX8_day 0 0 268 [some (am_R 38), some (am_I k), some (am_I l), some (am_I i), some (am_I n), some (am_I w), some (am_I 0), some (am_I b), some (am_I v), some (am_I x), v10] [] ρ h3 Q := by
  have hn58 := hM.1
  have x1 := am_lm hM 38 22 50 (by decide)
  have x2 := am_lm hM 38 5 40 (by decide)
  have l1 := am_lm hM 50 (-1) 5 (by decide)
  have l2 := am_lm hM 40 (-1) 5 (by decide)
  intro m
  induction m with
  | zero => intro x h3 hm; omega
  | succ m ih =>
    intro x h3 hm h0 h9 hf hr
    have g1 : h3 38 1 = h 38 1 := (hf 38 1 (by simp <;> omega)).trans (hd.2 1 (by omega))
    have g2 : h3 50 x = h2 50 x := hf 50 x (by simp <;> omega)
    refine am_iload (pc' := 270) dX8_day_268 rfl rfl ?_
    refine am_aload_n (pc' := 271) dX8_day_270 rfl rfl rfl ?_
    refine am_getIk (ki := 1) (pc' := 274) (k := 1) (ci := 7) rfl dX8_day_271 rfl fl_X8_77 (by first | assumption | exact ⟨by omega, by omega, rfl⟩) rfl ?_
    rw [g1]
    refine am_icmp_ge (pc' := 277) (tgt := 297) dX8_day_274 rfl rfl (fun c_274 => ?_) (fun c_274 => ?_)
    · refine am_aload_n (pc' := 298) dX8_day_297 rfl rfl rfl ?_
      refine am_iload (pc' := 300) dX8_day_298 rfl rfl ?_
      refine am_callV0 (pc' := 303) (as := [_]) (ci := 7)  rfl dX8_day_300 rfl ok_X8_refused ml_X8_117 im_X8_refused se_X8_refused rfl (Nat.le_of_ble_eq_true rfl) rfl (Nat.le_of_ble_eq_true rfl) (by first | assumption | exact ⟨by omega, by omega, rfl⟩) (t8_refused hM) (fun r_300 ρ_300 h_300 q_300 g_300 e_300 => ?_)
      obtain ⟨rfl, rfl, rfl⟩ := q_300
      refine am_reti dX8_day_303 rfl ?_
      refine hq _ ⟨fun y j z1 z2 z3 => ?_, fun p p0 p1 => ?_, fun j z => ?_, am_u_s _ _ _ _⟩
      · rw [am_u_n (by omega), hf y j (by simp; omega)]; exact hd.1 y j z1 (by omega) z3
      · rw [am_u_n (by omega), hr p p0 (by omega), hd.1 50 p (by omega) (by omega) (by omega)]; exact h50 p p0 p1
      · rw [am_u_n (by omega), hf 38 j (by simp <;> omega)]; exact hd.2 j (by omega)
    · refine am_aload_n (pc' := 278) dX8_day_277 rfl rfl rfl ?_
      refine am_getRk (ki := 5) (pc' := 281) (k := 5) (ci := 7) rfl dX8_day_278 rfl fl_X8_13 (by first | assumption | exact ⟨by omega, by omega, rfl⟩) rfl (by assumption) (by omega) ?_
      refine am_iload (pc' := 283) dX8_day_281 rfl rfl ?_
      refine am_aload_n (pc' := 284) dX8_day_283 rfl rfl rfl ?_
      refine am_getRk (ki := 22) (pc' := 287) (k := 22) (ci := 7) rfl dX8_day_284 rfl fl_X8_43 (by first | assumption | exact ⟨by omega, by omega, rfl⟩) rfl (by assumption) (by omega) ?_
      refine am_iload (pc' := 289) dX8_day_287 rfl rfl ?_
      refine am_iaload (pc' := 290) dX8_day_289 rfl (by first | assumption | exact ⟨by omega, by omega, rfl⟩) (by omega) (by omega) ?_
      refine am_iastore (pc' := 291) dX8_day_290 rfl (by first | assumption | exact ⟨by omega, by omega, rfl⟩) (by omega) (by omega) ?_
      refine am_iinc (pc' := 294) (ls' := [_, _, _, _, _, _, _, _, _, _, _]) dX8_day_291 rfl rfl ⟨by omega, by omega⟩ (Nat.le_of_ble_eq_true rfl) rfl rfl ?_
      refine am_goto (pc' := 268) dX8_day_294 rfl ?_
      refine ih _ _ (by omega) (by omega) (by omega) (am_fr_u hf (by simp <;> omega)) (am_upto (fun p p0 p1 => ?_) ?_)
      · rw [am_u_n (by omega)]; exact hr p p0 p1
      · rw [am_u_s]; exact g2
theorem t8_day_2 {ρ h : am_H} {k l i n w b : Int} {v9 v10 : Option am_V} {c : Int → Int} {Q : am_Q} (hM : am_LM ρ) (hR : md_R h) (hP0 : h 38 1 ≠ 0) (hb : 0 ≤ b ∧ b + 2 * n ≤ 240 ∧ 0 ≤ n ∧ n ≤ 20) (hc : ∀ t, 0 ≤ t → t < 2 * n → h 56 (b + t) = c t) (hac : dy_acts c n) (hw : o_dw w)
    (hq : ∀ v h' fw, md_frF 0 h h' → dy_fw (h 38 1) (h 38 2) c n fw → o_ofDay (md_nx h) (h 38 1) (h 38 2) fw (dy_f (h 38 1) (h 38 2) (h 39) c (h 40) n.toNat) (dy_s c n.toNat) (dy_o (h 38 1) (h 38 2) (h 39) c (h 40) n.toNat) w v → Q (some (am_I v)) ρ h') :
    ∀ (m : Nat) (x : Int) (h1 : am_H), (h 38 1 - x).toNat < m → 0 ≤ x → x ≤ h 38 1 → am_fr [50] h h1 → (∀ p, 0 ≤ p → p < x → h1 50 p = h 40 p) → am_WP mX8_day 0 0 224 [some (am_R 38), some (am_I k), some (am_I l), some (am_I i), some (am_I n), some (am_I w), some (am_I 0), some (am_I b), some (am_I x), v9, v10] [] ρ h1 Q := by
  have hn58 := hM.1
  obtain ⟨hA, hnm, hkd⟩ := md_RA hR hP0
  obtain ⟨a1, a2⟩ := id hA
  have x1 := am_lm hM 38 22 50 (by decide)
  have x2 := am_lm hM 38 5 40 (by decide)
  have l1 := am_lm hM 50 (-1) 5 (by decide)
  have l2 := am_lm hM 40 (-1) 5 (by decide)
  intro m
  induction m with
  | zero => intro x h1 hm; omega
  | succ m ih =>
    intro x h1 hm h0 h9 hf hr
    have g : ∀ j, h1 38 j = h 38 j := fun j => hf 38 j (by simp <;> omega)
    have g1 := g 1
    have g2 : h1 40 x = h 40 x := hf 40 x (by simp <;> omega)
    have g39 : h1 39 = h 39 := funext fun j => hf 39 j (by simp <;> omega)
    have g40 : h1 40 = h 40 := funext fun j => hf 40 j (by simp <;> omega)
    have hR1 : md_R h1 := by unfold md_R md_A; rw [g, g, g39, g40]; exact hR
    refine am_iload (pc' := 226) dX8_day_224 rfl rfl ?_
    refine am_aload_n (pc' := 227) dX8_day_226 rfl rfl rfl ?_
    refine am_getIk (ki := 1) (pc' := 230) (k := 1) (ci := 7) rfl dX8_day_227 rfl fl_X8_77 (by first | assumption | exact ⟨by omega, by omega, rfl⟩) rfl ?_
    rw [g1]
    refine am_icmp_ge (pc' := 233) (tgt := 253) dX8_day_230 rfl rfl (fun c_230 => ?_) (fun c_230 => ?_)
    · refine am_aload_n (pc' := 254) dX8_day_253 rfl rfl rfl ?_
      refine am_iload (pc' := 256) dX8_day_254 rfl rfl ?_
      refine am_iload (pc' := 258) dX8_day_256 rfl rfl ?_
      refine am_iload (pc' := 260) dX8_day_258 rfl rfl ?_
      refine am_callV0 (pc' := 263) (as := [_, _, _]) (ci := 7)  rfl dX8_day_260 rfl ok_X8_dayOf ml_X8_228 im_X8_dayOf se_X8_dayOf rfl (Nat.le_of_ble_eq_true rfl) rfl (Nat.le_of_ble_eq_true rfl) (by first | assumption | exact ⟨by omega, by omega, rfl⟩) (t8_dayOf (c := c) hM hR1 (by rw [g1]; exact hP0) hb (fun t t0 t1 => by rw [hf 56 _ (by simp <;> omega)]; exact hc t t0 t1) hac hw) (fun r_260 ρ_260 h_260 q_260 g_260 e_260 => ?_)
      obtain ⟨rfl, y1, v, fw, rfl, y2, y3⟩ := q_260
      unfold md_nx at y3
      rw [g, g] at y2 y3
      rw [g39, g40] at y3
      refine am_istore (pc' := 265) (ls' := [_, _, _, _, _, _, _, _, _, _, _]) dX8_day_263 rfl (Nat.le_of_ble_eq_true rfl) rfl rfl ?_
      refine am_iconst (pc' := 266) dX8_day_265 rfl rfl ?_
      refine am_istore (pc' := 268) (ls' := [_, _, _, _, _, _, _, _, _, _, _]) dX8_day_266 rfl (Nat.le_of_ble_eq_true rfl) rfl rfl ?_
      refine t8_day_3 (h := h1) hM (by omega) y1 (fun p p0 p1 => by rw [hr p p0 (by omega), g40]) (fun h' z => hq v h' fw ?_ y2 y3) ((h1 38 1).toNat + 1) 0 _ (by omega) (by omega) (by omega) am_fr_refl (fun p p0 p1 => by omega)
      obtain ⟨z1, z2, z3, z4⟩ := z
      exact ⟨fun y j u1 u2 u3 => (z1 y j u1 u2 u3).trans (hf y j (by simp; omega)), fun p p0 p1 => (z2 p p0 (by omega)).trans (by rw [g40]), fun j u => (z3 j u).trans (g j), z4⟩
    · refine am_aload_n (pc' := 234) dX8_day_233 rfl rfl rfl ?_
      refine am_getRk (ki := 22) (pc' := 237) (k := 22) (ci := 7) rfl dX8_day_234 rfl fl_X8_43 (by first | assumption | exact ⟨by omega, by omega, rfl⟩) rfl (by assumption) (by omega) ?_
      refine am_iload (pc' := 239) dX8_day_237 rfl rfl ?_
      refine am_aload_n (pc' := 240) dX8_day_239 rfl rfl rfl ?_
      refine am_getRk (ki := 5) (pc' := 243) (k := 5) (ci := 7) rfl dX8_day_240 rfl fl_X8_13 (by first | assumption | exact ⟨by omega, by omega, rfl⟩) rfl (by assumption) (by omega) ?_
      refine am_iload (pc' := 245) dX8_day_243 rfl rfl ?_
      refine am_iaload (pc' := 246) dX8_day_245 rfl (by first | assumption | exact ⟨by omega, by omega, rfl⟩) (by omega) (by omega) ?_
      refine am_iastore (pc' := 247) dX8_day_246 rfl (by first | assumption | exact ⟨by omega, by omega, rfl⟩) (by omega) (by omega) ?_
      refine am_iinc (pc' := 250) (ls' := [_, _, _, _, _, _, _, _, _, _, _]) dX8_day_247 rfl rfl ⟨by omega, by omega⟩ (Nat.le_of_ble_eq_true rfl) rfl rfl ?_
      refine am_goto (pc' := 224) dX8_day_250 rfl ?_
      refine ih _ _ (by omega) (by omega) (by omega) (am_fr_u hf (by simp <;> omega)) (am_upto (fun p p0 p1 => ?_) ?_)
      · rw [am_u_n (by omega)]; exact hr p p0 p1
      · rw [am_u_s]; exact g2
theorem t8_day_1 {ρ h : am_H} {k l i n w b : Int} {c : Int → Int} {Q : am_Q} (hM : am_LM ρ) (hR : md_R h) (hP0 : h 38 1 ≠ 0) (hb : 0 ≤ b ∧ b + 2 * n ≤ 240 ∧ 0 ≤ n ∧ n ≤ 20) (hc : ∀ t, 0 ≤ t → t < 2 * n → h 56 (b + t) = c t) (hw : o_dw w)
    (hF : ¬ dy_acts c n → Q (some (am_I (-2))) ρ (am_u h 38 0 0))
    (hq : ∀ v h' fw, dy_acts c n → md_frF 0 h h' → dy_fw (h 38 1) (h 38 2) c n fw → o_ofDay (md_nx h) (h 38 1) (h 38 2) fw (dy_f (h 38 1) (h 38 2) (h 39) c (h 40) n.toNat) (dy_s c n.toNat) (dy_o (h 38 1) (h 38 2) (h 39) c (h 40) n.toNat) w v → Q (some (am_I v)) ρ h') :
    ∀ (m : Nat) (x : Int) (v9 v10 : Option am_V), (n - x).toNat < m → 0 ≤ x → x ≤ n → dy_acts c x → am_WP mX8_day 0 0 122 [some (am_R 38), some (am_I k), some (am_I l), some (am_I i), some (am_I n), some (am_I w), some (am_I 0), some (am_I b), some (am_I x), v9, v10] [] ρ h Q := by
  have hn58 := hM.1
  have hP5 := (md_P5 hR).1
  have e3 := am_lm hM 38 29 56 (by decide)
  have l3 := am_lm hM 56 (-1) 240 (by decide)
  intro m
  induction m with
  | zero => intro x v9 v10 hm; omega
  | succ m ih =>
    intro x v9 v10 hm h0 h9 hr
    have hc0 : x < n → h 56 (b + 2 * x) = c (2 * x) := fun z => hc _ (by omega) (by omega)
    have hc1 : x < n → h 56 (b + 2 * x + 1) = c (2 * x + 1) := fun z => by rw [Int.add_assoc]; exact hc _ (by omega) (by omega)
    have no : x < n → dy_act (c (2 * x)) (c (2 * x + 1)) = false → ¬ dy_acts c n := fun z y u => by
      rw [u x h0 z] at y
      exact absurd y (by decide)
    have K208 : x < n → dy_act (c (2 * x)) (c (2 * x + 1)) = false → ∀ v9 v10, am_WP mX8_day 0 0 208 [some (am_R 38), some (am_I k), some (am_I l), some (am_I i), some (am_I n), some (am_I w), some (am_I 0), some (am_I b), some (am_I x), v9, v10] [] ρ h Q := by
      intro z y v9 v10
      refine am_aload_n (pc' := 209) dX8_day_208 rfl rfl rfl ?_
      refine am_bipush (pc' := 211) dX8_day_209 rfl rfl (by decide) ?_
      refine am_callV0 (pc' := 214) (as := [_]) (ci := 7)  rfl dX8_day_211 rfl ok_X8_refused ml_X8_117 im_X8_refused se_X8_refused rfl (Nat.le_of_ble_eq_true rfl) rfl (Nat.le_of_ble_eq_true rfl) (by first | assumption | exact ⟨by omega, by omega, rfl⟩) (t8_refused hM) (fun r_211 ρ_211 h_211 q_211 g_211 e_211 => ?_)
      obtain ⟨rfl, rfl, rfl⟩ := q_211
      refine am_reti dX8_day_214 rfl ?_
      exact hF (no z y)
    have K215 : x < n → dy_act (c (2 * x)) (c (2 * x + 1)) = true → ∀ v9 v10, am_WP mX8_day 0 0 215 [some (am_R 38), some (am_I k), some (am_I l), some (am_I i), some (am_I n), some (am_I w), some (am_I 0), some (am_I b), some (am_I x), v9, v10] [] ρ h Q := by
      intro z y v9 v10
      refine am_iinc (pc' := 218) (ls' := [_, _, _, _, _, _, _, _, _, _, _]) dX8_day_215 rfl rfl ⟨by omega, by omega⟩ (Nat.le_of_ble_eq_true rfl) rfl rfl ?_
      refine am_goto (pc' := 122) dX8_day_218 rfl ?_
      exact ih _ _ _ (by omega) (by omega) (by omega) (am_upto hr y)
    refine am_iload (pc' := 124) dX8_day_122 rfl rfl ?_
    refine am_iload (pc' := 126) dX8_day_124 rfl rfl ?_
    refine am_icmp_ge (pc' := 129) (tgt := 221) dX8_day_126 rfl rfl (fun c_126 => ?_) (fun c_126 => ?_)
    · refine am_iconst (pc' := 222) dX8_day_221 rfl rfl ?_
      refine am_istore (pc' := 224) (ls' := [_, _, _, _, _, _, _, _, _, _, _]) dX8_day_222 rfl (Nat.le_of_ble_eq_true rfl) rfl rfl ?_
      have e9 : x = n := by omega
      subst e9
      exact t8_day_2 hM hR hP0 hb hc hr hw (fun v h' fw y1 y2 y3 => hq v h' fw hr y1 y2 y3) ((h 38 1).toNat + 1) 0 h (by omega) (by omega) (by omega) am_fr_refl (fun p p0 p1 => by omega)
    · refine am_aload_n (pc' := 130) dX8_day_129 rfl rfl rfl ?_
      refine am_getRk (ki := 29) (pc' := 133) (k := 29) (ci := 7) rfl dX8_day_130 rfl fl_X8_61 (by first | assumption | exact ⟨by omega, by omega, rfl⟩) rfl (by assumption) (by omega) ?_
      refine am_iload (pc' := 135) dX8_day_133 rfl rfl ?_
      refine am_iconst (pc' := 136) dX8_day_135 rfl rfl ?_
      refine am_iload (pc' := 138) dX8_day_136 rfl rfl ?_
      refine am_imul (pc' := 139) dX8_day_138 rfl ⟨by omega, by omega⟩ ?_
      refine am_iadd (pc' := 140) dX8_day_139 rfl ⟨by omega, by omega⟩ ?_
      refine am_iaload (pc' := 141) dX8_day_140 rfl (by first | assumption | exact ⟨by omega, by omega, rfl⟩) (by omega) (by omega) ?_
      rw [hc0 (by omega)]
      refine am_istore (pc' := 143) (ls' := [_, _, _, _, _, _, _, _, _, _, _]) dX8_day_141 rfl (Nat.le_of_ble_eq_true rfl) rfl rfl ?_
      refine am_aload_n (pc' := 144) dX8_day_143 rfl rfl rfl ?_
      refine am_getRk (ki := 29) (pc' := 147) (k := 29) (ci := 7) rfl dX8_day_144 rfl fl_X8_61 (by first | assumption | exact ⟨by omega, by omega, rfl⟩) rfl (by assumption) (by omega) ?_
      refine am_iload (pc' := 149) dX8_day_147 rfl rfl ?_
      refine am_iconst (pc' := 150) dX8_day_149 rfl rfl ?_
      refine am_iload (pc' := 152) dX8_day_150 rfl rfl ?_
      refine am_imul (pc' := 153) dX8_day_152 rfl ⟨by omega, by omega⟩ ?_
      refine am_iadd (pc' := 154) dX8_day_153 rfl ⟨by omega, by omega⟩ ?_
      refine am_iconst (pc' := 155) dX8_day_154 rfl rfl ?_
      refine am_iadd (pc' := 156) dX8_day_155 rfl ⟨by omega, by omega⟩ ?_
      refine am_iaload (pc' := 157) dX8_day_156 rfl (by first | assumption | exact ⟨by omega, by omega, rfl⟩) (by omega) (by omega) ?_
      rw [hc1 (by omega)]
      refine am_istore (pc' := 159) (ls' := [_, _, _, _, _, _, _, _, _, _, _]) dX8_day_157 rfl (Nat.le_of_ble_eq_true rfl) rfl rfl ?_
      refine am_iload (pc' := 161) dX8_day_159 rfl rfl ?_
      refine am_bipush (pc' := 163) dX8_day_161 rfl rfl (by decide) ?_
      refine am_icmp_ne (pc' := 166) (tgt := 182) dX8_day_163 rfl rfl (fun c_163 => ?_) (fun c_163 => ?_)
      · refine am_iload (pc' := 184) dX8_day_182 rfl rfl ?_
        refine am_i2l (pc' := 185) dX8_day_184 rfl ?_
        refine am_lconst0 (pc' := 186) dX8_day_185 rfl ?_
        refine am_ldc2 (pc' := 189) (x := 4) dX8_day_186 rfl kl_X8_220 rfl rfl ?_
        refine am_callSp (pc' := 192) (as := [_, _, _])  rfl dX8_day_189 rfl ok_X8_in ml_X8_80 sm_X8_in (Nat.le_of_ble_eq_true rfl) rfl (Nat.le_of_ble_eq_true rfl) (t8_in) ?_
        refine am_if_eq (pc' := 195) (tgt := 208) dX8_day_192 rfl rfl (fun c_192 => ?_) (fun c_192 => ?_)
        · simp only [am_z0, am_z1, ne_eq] at c_192
          refine K208 (by omega) ?_ _ _
          unfold dy_act
          first | (rw [if_pos (by omega)]; exact decide_eq_false (by omega)) | (rw [if_neg (by omega)]; exact decide_eq_false (by omega)) | fail
        · simp only [am_z0, am_z1, ne_eq] at c_192
          refine am_iload (pc' := 197) dX8_day_195 rfl rfl ?_
          refine am_i2l (pc' := 198) dX8_day_197 rfl ?_
          refine am_lconst0 (pc' := 199) dX8_day_198 rfl ?_
          refine am_ldc2 (pc' := 202) (x := 5) dX8_day_199 rfl kl_X8_226 rfl rfl ?_
          refine am_callSp (pc' := 205) (as := [_, _, _])  rfl dX8_day_202 rfl ok_X8_in ml_X8_80 sm_X8_in (Nat.le_of_ble_eq_true rfl) rfl (Nat.le_of_ble_eq_true rfl) (t8_in) ?_
          refine am_if_ne (pc' := 208) (tgt := 215) dX8_day_205 rfl rfl (fun c_205 => ?_) (fun c_205 => ?_)
          · simp only [am_z0, am_z1, ne_eq] at c_205
            refine K215 (by omega) ?_ _ _
            unfold dy_act
            first | (rw [if_pos (by omega)]; exact decide_eq_true (by omega)) | (rw [if_neg (by omega)]; exact decide_eq_true (by omega)) | fail
          · simp only [am_z0, am_z1, ne_eq] at c_205
            refine K208 (by omega) ?_ _ _
            unfold dy_act
            first | (rw [if_pos (by omega)]; exact decide_eq_false (by omega)) | (rw [if_neg (by omega)]; exact decide_eq_false (by omega)) | fail
      · refine am_iload (pc' := 168) dX8_day_166 rfl rfl ?_
        refine am_i2l (pc' := 169) dX8_day_168 rfl ?_
        refine am_lconst0 (pc' := 170) dX8_day_169 rfl ?_
        refine am_ldc2 (pc' := 173) (x := 99) dX8_day_170 rfl kl_X8_158 rfl rfl ?_
        refine am_callSp (pc' := 176) (as := [_, _, _])  rfl dX8_day_173 rfl ok_X8_in ml_X8_80 sm_X8_in (Nat.le_of_ble_eq_true rfl) rfl (Nat.le_of_ble_eq_true rfl) (t8_in) ?_
        refine am_if_ne (pc' := 179) (tgt := 215) dX8_day_176 rfl rfl (fun c_176 => ?_) (fun c_176 => ?_)
        · simp only [am_z0, am_z1, ne_eq] at c_176
          refine K215 (by omega) ?_ _ _
          unfold dy_act
          first | (rw [if_pos (by omega)]; exact decide_eq_true (by omega)) | (rw [if_neg (by omega)]; exact decide_eq_true (by omega)) | fail
        · simp only [am_z0, am_z1, ne_eq] at c_176
          refine am_goto (pc' := 208) dX8_day_179 rfl ?_
          refine K208 (by omega) ?_ _ _
          unfold dy_act
          first | (rw [if_pos (by omega)]; exact decide_eq_false (by omega)) | (rw [if_neg (by omega)]; exact decide_eq_false (by omega)) | fail
theorem t8_day_111 {ρ h : am_H} {k l i n w : Int} {Q : am_Q} (hM : am_LM ρ) (hR : md_R h) (hP0 : h 38 1 ≠ 0) (hk : 0 ≤ k ∧ k < 4) (hw : o_dw w) (hz : 0 ≤ n ∧ n ≤ 20 ∧ 0 ≤ i ∧ i + 2 * n ≤ 60)
    (hF : ¬ dy_acts (md_c h k i) n → Q (some (am_I (-2))) ρ (am_u h 38 0 0))
    (hq : ∀ v h' fw, dy_acts (md_c h k i) n → md_frF 0 h h' → dy_fw (h 38 1) (h 38 2) (md_c h k i) n fw → o_ofDay (md_nx h) (h 38 1) (h 38 2) fw (dy_f (h 38 1) (h 38 2) (h 39) (md_c h k i) (h 40) n.toNat) (dy_s (md_c h k i) n.toNat) (dy_o (h 38 1) (h 38 2) (h 39) (md_c h k i) (h 40) n.toNat) w v → Q (some (am_I v)) ρ h') :
    am_WP mX8_day 0 0 111 [some (am_R 38), some (am_I k), some (am_I l), some (am_I i), some (am_I n), some (am_I w), some (am_I 0), none, none, none, none] [] ρ h Q := by
  refine am_bipush (pc' := 113) dX8_day_111 rfl rfl (by decide) ?_
  refine am_iload_n (pc' := 114) dX8_day_113 rfl rfl rfl ?_
  refine am_imul (pc' := 115) dX8_day_114 rfl ⟨by omega, by omega⟩ ?_
  refine am_iload_n (pc' := 116) dX8_day_115 rfl rfl rfl ?_
  refine am_iadd (pc' := 117) dX8_day_116 rfl ⟨by omega, by omega⟩ ?_
  refine am_istore (pc' := 119) (ls' := [_, _, _, _, _, _, _, _, _, _, _]) dX8_day_117 rfl (Nat.le_of_ble_eq_true rfl) rfl rfl ?_
  refine am_iconst (pc' := 120) dX8_day_119 rfl rfl ?_
  refine am_istore (pc' := 122) (ls' := [_, _, _, _, _, _, _, _, _, _, _]) dX8_day_120 rfl (Nat.le_of_ble_eq_true rfl) rfl rfl ?_
  exact t8_day_1 (c := md_c h k i) hM hR hP0 (by omega) (fun t t0 t1 => rfl) hw hF hq (n.toNat + 1) 0 _ _ (by omega) (by omega) (by omega) (fun q q0 q1 => by omega)
theorem t8_day {ρ h : am_H} {k l i n w : Int} (hM : am_LM ρ) (hR : md_R h) (hS : md_S h) : am_CT mX8_day 0 0 [am_R 38, am_I k, am_I l, am_I i, am_I n, am_I w] ρ h (fun r ρ' h' => ρ' = ρ ∧ ∃ v f, r = some (am_I v) ∧ md_frF f h h' ∧ o_day (h 38 1) (h 38 2) (md_nx h) (h 39) (h 40) k l n w (md_fl h k l i (2 * n)) (md_c h k i) v f) := by
  have hn58 := hM.1
  refine am_ct (ls := [some (am_R 38), some (am_I k), some (am_I l), some (am_I i), some (am_I n), some (am_I w), none, none, none, none, none]) ok_X8_day rfl (fun _ => Nat.le_of_ble_eq_true rfl) (fun _ => rfl) (by intro v hv; simpa using hv) ?_
  refine am_WPol (fun ol => ?_)
  have oi : am_okI i := ol (am_I i) (by simp)
  have on : am_okI n := ol (am_I n) (by simp)
  clear ol
  unfold am_okI at oi on
  refine am_iload_n (pc' := 1) dX8_day_0 rfl rfl rfl ?_
  refine am_callSp (pc' := 4) (as := [_])  rfl dX8_day_1 rfl ok_X8_noSheet ml_X8_113 sm_X8_noSheet (Nat.le_of_ble_eq_true rfl) rfl (Nat.le_of_ble_eq_true rfl) (t8_noSheet) ?_
  refine am_if_eq (pc' := 7) (tgt := 13) dX8_day_4 rfl rfl (fun c_4 => ?_) (fun c_4 => ?_)
  · simp only [am_z0, am_z1, ne_eq] at c_4
    refine am_iload_n (pc' := 14) dX8_day_13 rfl rfl rfl ?_
    refine am_i2l (pc' := 15) dX8_day_14 rfl ?_
    refine am_lconst0 (pc' := 16) dX8_day_15 rfl ?_
    refine am_ldc2 (pc' := 19) (x := 2) dX8_day_16 rfl kl_X8_97 rfl rfl ?_
    refine am_callSp (pc' := 22) (as := [_, _, _])  rfl dX8_day_19 rfl ok_X8_in ml_X8_80 sm_X8_in (Nat.le_of_ble_eq_true rfl) rfl (Nat.le_of_ble_eq_true rfl) (t8_in) ?_
    refine am_if_eq (pc' := 25) (tgt := 66) dX8_day_22 rfl rfl (fun c_22 => ?_) (fun c_22 => ?_)
    · simp only [am_z0, am_z1, ne_eq] at c_22
      refine am_aload_n (pc' := 67) dX8_day_66 rfl rfl rfl ?_
      refine am_bipush (pc' := 69) dX8_day_67 rfl rfl (by decide) ?_
      refine am_callV0 (pc' := 72) (as := [_]) (ci := 7)  rfl dX8_day_69 rfl ok_X8_refused ml_X8_117 im_X8_refused se_X8_refused rfl (Nat.le_of_ble_eq_true rfl) rfl (Nat.le_of_ble_eq_true rfl) (by first | assumption | exact ⟨by omega, by omega, rfl⟩) (t8_refused hM) (fun r_69 ρ_69 h_69 q_69 g_69 e_69 => ?_)
      obtain ⟨rfl, rfl, rfl⟩ := q_69
      refine am_reti dX8_day_72 rfl ?_
      exact ⟨rfl, _, 0, rfl, md_frF_u, Or.inr (Or.inl ⟨by omega, by unfold o_dw; omega, rfl, rfl⟩)⟩
    · simp only [am_z0, am_z1, ne_eq] at c_22
      refine am_iload (pc' := 27) dX8_day_25 rfl rfl ?_
      refine am_i2l (pc' := 28) dX8_day_27 rfl ?_
      refine am_lconst0 (pc' := 29) dX8_day_28 rfl ?_
      refine am_ldc2 (pc' := 32) (x := 20) dX8_day_29 rfl kl_X8_218 rfl rfl ?_
      refine am_callSp (pc' := 35) (as := [_, _, _])  rfl dX8_day_32 rfl ok_X8_in ml_X8_80 sm_X8_in (Nat.le_of_ble_eq_true rfl) rfl (Nat.le_of_ble_eq_true rfl) (t8_in) ?_
      refine am_if_eq (pc' := 38) (tgt := 66) dX8_day_35 rfl rfl (fun c_35 => ?_) (fun c_35 => ?_)
      · simp only [am_z0, am_z1, ne_eq] at c_35
        refine am_aload_n (pc' := 67) dX8_day_66 rfl rfl rfl ?_
        refine am_bipush (pc' := 69) dX8_day_67 rfl rfl (by decide) ?_
        refine am_callV0 (pc' := 72) (as := [_]) (ci := 7)  rfl dX8_day_69 rfl ok_X8_refused ml_X8_117 im_X8_refused se_X8_refused rfl (Nat.le_of_ble_eq_true rfl) rfl (Nat.le_of_ble_eq_true rfl) (by first | assumption | exact ⟨by omega, by omega, rfl⟩) (t8_refused hM) (fun r_69 ρ_69 h_69 q_69 g_69 e_69 => ?_)
        obtain ⟨rfl, rfl, rfl⟩ := q_69
        refine am_reti dX8_day_72 rfl ?_
        exact ⟨rfl, _, 0, rfl, md_frF_u, Or.inr (Or.inl ⟨by omega, by unfold o_dw; omega, rfl, rfl⟩)⟩
      · simp only [am_z0, am_z1, ne_eq] at c_35
        refine am_iload (pc' := 40) dX8_day_38 rfl rfl ?_
        refine am_i2l (pc' := 41) dX8_day_40 rfl ?_
        refine am_lconst0 (pc' := 42) dX8_day_41 rfl ?_
        refine am_ldc2 (pc' := 45) (x := 4) dX8_day_42 rfl kl_X8_220 rfl rfl ?_
        refine am_callSp (pc' := 48) (as := [_, _, _])  rfl dX8_day_45 rfl ok_X8_in ml_X8_80 sm_X8_in (Nat.le_of_ble_eq_true rfl) rfl (Nat.le_of_ble_eq_true rfl) (t8_in) ?_
        refine am_if_ne (pc' := 51) (tgt := 73) dX8_day_48 rfl rfl (fun c_48 => ?_) (fun c_48 => ?_)
        · simp only [am_z0, am_z1, ne_eq] at c_48
          have hk : 0 ≤ k ∧ k < 4 := by omega
          have hok9 : (0 ≤ l ∧ l < 3) ∧ (0 ≤ n ∧ n ≤ 20) ∧ o_dw w := by unfold o_dw; omega
          have hs := hS k hk.1 hk.2
          have hb := sh_asb (md_ln h k) (h 54 k) l i (2 * n)
          refine am_aload_n (pc' := 74) dX8_day_73 rfl rfl rfl ?_
          refine am_getIk (ki := 1) (pc' := 77) (k := 1) (ci := 7) rfl dX8_day_74 rfl fl_X8_77 (by first | assumption | exact ⟨by omega, by omega, rfl⟩) rfl ?_
          refine am_if_ne (pc' := 80) (tgt := 87) dX8_day_77 rfl rfl (fun c_77 => ?_) (fun c_77 => ?_)
          · refine am_aload_n (pc' := 88) dX8_day_87 rfl rfl rfl ?_
            refine am_iload_n (pc' := 89) dX8_day_88 rfl rfl rfl ?_
            refine am_iload_n (pc' := 90) dX8_day_89 rfl rfl rfl ?_
            refine am_iload_n (pc' := 91) dX8_day_90 rfl rfl rfl ?_
            refine am_ldc2 (pc' := 94) (x := 2) dX8_day_91 rfl kl_X8_97 rfl rfl ?_
            refine am_iload (pc' := 96) dX8_day_94 rfl rfl ?_
            refine am_i2l (pc' := 97) dX8_day_96 rfl ?_
            refine am_lmul (pc' := 98) dX8_day_97 rfl ⟨by omega, by omega⟩ ?_
            refine am_callV0 (pc' := 101) (as := [_, _, _, _]) (ci := 7)  rfl dX8_day_98 rfl ok_X8_cellsBarred ml_X8_120 im_X8_cellsBarred se_X8_cellsBarred rfl (Nat.le_of_ble_eq_true rfl) rfl (Nat.le_of_ble_eq_true rfl) (by first | assumption | exact ⟨by omega, by omega, rfl⟩) (t8_cellsBarred hM hS hk (by omega) (by omega)) (fun r_98 ρ_98 h_98 q_98 g_98 e_98 => ?_)
            obtain ⟨rfl, w2⟩ := q_98
            rcases w2 with ⟨w1, rfl, rfl⟩ | ⟨w1, rfl, rfl⟩
            · refine am_istore (pc' := 103) (ls' := [_, _, _, _, _, _, _, _, _, _, _]) dX8_day_101 rfl (Nat.le_of_ble_eq_true rfl) rfl rfl ?_
              refine am_iload (pc' := 105) dX8_day_103 rfl rfl ?_
              refine am_if_ge (pc' := 108) (tgt := 111) dX8_day_105 rfl rfl (fun c_105 => ?_) (fun c_105 => ?_)
              · first | (exfalso; omega) | exact t8_day_111 hM hR (by omega) hk hok9.2.2 (by have hz := sh_as0 w1; omega) (fun z => ⟨rfl, _, 0, rfl, md_frF_u, Or.inr (Or.inr (Or.inr (Or.inr (Or.inl ⟨hk, hok9, by omega, w1, z, rfl, rfl⟩))))⟩) (fun v h' fw z1 z2 z3 z4 => ⟨rfl, v, 0, rfl, z2, Or.inr (Or.inr (Or.inr (Or.inr (Or.inr ⟨hk, hok9, by omega, w1, z1, rfl, fw, z3, z4⟩))))⟩) | fail
              · refine am_iload (pc' := 110) dX8_day_108 rfl rfl ?_
                refine am_reti dX8_day_110 rfl ?_
                first | (exfalso; omega) | exact ⟨rfl, _, _, rfl, md_frF_u, Or.inr (Or.inr (Or.inr (Or.inl ⟨hk, hok9, by omega, w1, rfl, rfl⟩)))⟩ | fail
            · refine am_istore (pc' := 103) (ls' := [_, _, _, _, _, _, _, _, _, _, _]) dX8_day_101 rfl (Nat.le_of_ble_eq_true rfl) rfl rfl ?_
              refine am_iload (pc' := 105) dX8_day_103 rfl rfl ?_
              refine am_if_ge (pc' := 108) (tgt := 111) dX8_day_105 rfl rfl (fun c_105 => ?_) (fun c_105 => ?_)
              · first | (exfalso; omega) | exact t8_day_111 hM hR (by omega) hk hok9.2.2 (by have hz := sh_as0 w1; omega) (fun z => ⟨rfl, _, 0, rfl, md_frF_u, Or.inr (Or.inr (Or.inr (Or.inr (Or.inl ⟨hk, hok9, by omega, w1, z, rfl, rfl⟩))))⟩) (fun v h' fw z1 z2 z3 z4 => ⟨rfl, v, 0, rfl, z2, Or.inr (Or.inr (Or.inr (Or.inr (Or.inr ⟨hk, hok9, by omega, w1, z1, rfl, fw, z3, z4⟩))))⟩) | fail
              · refine am_iload (pc' := 110) dX8_day_108 rfl rfl ?_
                refine am_reti dX8_day_110 rfl ?_
                first | (exfalso; omega) | exact ⟨rfl, _, _, rfl, md_frF_u, Or.inr (Or.inr (Or.inr (Or.inl ⟨hk, hok9, by omega, w1, rfl, rfl⟩)))⟩ | fail
          · refine am_aload_n (pc' := 81) dX8_day_80 rfl rfl rfl ?_
            refine am_bipush (pc' := 83) dX8_day_81 rfl rfl (by decide) ?_
            refine am_callV0 (pc' := 86) (as := [_]) (ci := 7)  rfl dX8_day_83 rfl ok_X8_refused ml_X8_117 im_X8_refused se_X8_refused rfl (Nat.le_of_ble_eq_true rfl) rfl (Nat.le_of_ble_eq_true rfl) (by first | assumption | exact ⟨by omega, by omega, rfl⟩) (t8_refused hM) (fun r_83 ρ_83 h_83 q_83 g_83 e_83 => ?_)
            obtain ⟨rfl, rfl, rfl⟩ := q_83
            refine am_reti dX8_day_86 rfl ?_
            exact ⟨rfl, _, 0, rfl, md_frF_u, Or.inr (Or.inr (Or.inl ⟨hk, hok9, by omega, rfl, rfl⟩))⟩
        · simp only [am_z0, am_z1, ne_eq] at c_48
          refine am_iload (pc' := 53) dX8_day_51 rfl rfl ?_
          refine am_i2l (pc' := 54) dX8_day_53 rfl ?_
          refine am_ldc2 (pc' := 57) (x := 10) dX8_day_54 rfl kl_X8_222 rfl rfl ?_
          refine am_ldc2 (pc' := 60) (x := 14) dX8_day_57 rfl kl_X8_224 rfl rfl ?_
          refine am_callSp (pc' := 63) (as := [_, _, _])  rfl dX8_day_60 rfl ok_X8_in ml_X8_80 sm_X8_in (Nat.le_of_ble_eq_true rfl) rfl (Nat.le_of_ble_eq_true rfl) (t8_in) ?_
          refine am_if_ne (pc' := 66) (tgt := 73) dX8_day_63 rfl rfl (fun c_63 => ?_) (fun c_63 => ?_)
          · simp only [am_z0, am_z1, ne_eq] at c_63
            have hk : 0 ≤ k ∧ k < 4 := by omega
            have hok9 : (0 ≤ l ∧ l < 3) ∧ (0 ≤ n ∧ n ≤ 20) ∧ o_dw w := by unfold o_dw; omega
            have hs := hS k hk.1 hk.2
            have hb := sh_asb (md_ln h k) (h 54 k) l i (2 * n)
            refine am_aload_n (pc' := 74) dX8_day_73 rfl rfl rfl ?_
            refine am_getIk (ki := 1) (pc' := 77) (k := 1) (ci := 7) rfl dX8_day_74 rfl fl_X8_77 (by first | assumption | exact ⟨by omega, by omega, rfl⟩) rfl ?_
            refine am_if_ne (pc' := 80) (tgt := 87) dX8_day_77 rfl rfl (fun c_77 => ?_) (fun c_77 => ?_)
            · refine am_aload_n (pc' := 88) dX8_day_87 rfl rfl rfl ?_
              refine am_iload_n (pc' := 89) dX8_day_88 rfl rfl rfl ?_
              refine am_iload_n (pc' := 90) dX8_day_89 rfl rfl rfl ?_
              refine am_iload_n (pc' := 91) dX8_day_90 rfl rfl rfl ?_
              refine am_ldc2 (pc' := 94) (x := 2) dX8_day_91 rfl kl_X8_97 rfl rfl ?_
              refine am_iload (pc' := 96) dX8_day_94 rfl rfl ?_
              refine am_i2l (pc' := 97) dX8_day_96 rfl ?_
              refine am_lmul (pc' := 98) dX8_day_97 rfl ⟨by omega, by omega⟩ ?_
              refine am_callV0 (pc' := 101) (as := [_, _, _, _]) (ci := 7)  rfl dX8_day_98 rfl ok_X8_cellsBarred ml_X8_120 im_X8_cellsBarred se_X8_cellsBarred rfl (Nat.le_of_ble_eq_true rfl) rfl (Nat.le_of_ble_eq_true rfl) (by first | assumption | exact ⟨by omega, by omega, rfl⟩) (t8_cellsBarred hM hS hk (by omega) (by omega)) (fun r_98 ρ_98 h_98 q_98 g_98 e_98 => ?_)
              obtain ⟨rfl, w2⟩ := q_98
              rcases w2 with ⟨w1, rfl, rfl⟩ | ⟨w1, rfl, rfl⟩
              · refine am_istore (pc' := 103) (ls' := [_, _, _, _, _, _, _, _, _, _, _]) dX8_day_101 rfl (Nat.le_of_ble_eq_true rfl) rfl rfl ?_
                refine am_iload (pc' := 105) dX8_day_103 rfl rfl ?_
                refine am_if_ge (pc' := 108) (tgt := 111) dX8_day_105 rfl rfl (fun c_105 => ?_) (fun c_105 => ?_)
                · first | (exfalso; omega) | exact t8_day_111 hM hR (by omega) hk hok9.2.2 (by have hz := sh_as0 w1; omega) (fun z => ⟨rfl, _, 0, rfl, md_frF_u, Or.inr (Or.inr (Or.inr (Or.inr (Or.inl ⟨hk, hok9, by omega, w1, z, rfl, rfl⟩))))⟩) (fun v h' fw z1 z2 z3 z4 => ⟨rfl, v, 0, rfl, z2, Or.inr (Or.inr (Or.inr (Or.inr (Or.inr ⟨hk, hok9, by omega, w1, z1, rfl, fw, z3, z4⟩))))⟩) | fail
                · refine am_iload (pc' := 110) dX8_day_108 rfl rfl ?_
                  refine am_reti dX8_day_110 rfl ?_
                  first | (exfalso; omega) | exact ⟨rfl, _, _, rfl, md_frF_u, Or.inr (Or.inr (Or.inr (Or.inl ⟨hk, hok9, by omega, w1, rfl, rfl⟩)))⟩ | fail
              · refine am_istore (pc' := 103) (ls' := [_, _, _, _, _, _, _, _, _, _, _]) dX8_day_101 rfl (Nat.le_of_ble_eq_true rfl) rfl rfl ?_
                refine am_iload (pc' := 105) dX8_day_103 rfl rfl ?_
                refine am_if_ge (pc' := 108) (tgt := 111) dX8_day_105 rfl rfl (fun c_105 => ?_) (fun c_105 => ?_)
                · first | (exfalso; omega) | exact t8_day_111 hM hR (by omega) hk hok9.2.2 (by have hz := sh_as0 w1; omega) (fun z => ⟨rfl, _, 0, rfl, md_frF_u, Or.inr (Or.inr (Or.inr (Or.inr (Or.inl ⟨hk, hok9, by omega, w1, z, rfl, rfl⟩))))⟩) (fun v h' fw z1 z2 z3 z4 => ⟨rfl, v, 0, rfl, z2, Or.inr (Or.inr (Or.inr (Or.inr (Or.inr ⟨hk, hok9, by omega, w1, z1, rfl, fw, z3, z4⟩))))⟩) | fail
                · refine am_iload (pc' := 110) dX8_day_108 rfl rfl ?_
                  refine am_reti dX8_day_110 rfl ?_
                  first | (exfalso; omega) | exact ⟨rfl, _, _, rfl, md_frF_u, Or.inr (Or.inr (Or.inr (Or.inl ⟨hk, hok9, by omega, w1, rfl, rfl⟩)))⟩ | fail
            · refine am_aload_n (pc' := 81) dX8_day_80 rfl rfl rfl ?_
              refine am_bipush (pc' := 83) dX8_day_81 rfl rfl (by decide) ?_
              refine am_callV0 (pc' := 86) (as := [_]) (ci := 7)  rfl dX8_day_83 rfl ok_X8_refused ml_X8_117 im_X8_refused se_X8_refused rfl (Nat.le_of_ble_eq_true rfl) rfl (Nat.le_of_ble_eq_true rfl) (by first | assumption | exact ⟨by omega, by omega, rfl⟩) (t8_refused hM) (fun r_83 ρ_83 h_83 q_83 g_83 e_83 => ?_)
              obtain ⟨rfl, rfl, rfl⟩ := q_83
              refine am_reti dX8_day_86 rfl ?_
              exact ⟨rfl, _, 0, rfl, md_frF_u, Or.inr (Or.inr (Or.inl ⟨hk, hok9, by omega, rfl, rfl⟩))⟩
          · simp only [am_z0, am_z1, ne_eq] at c_63
            refine am_aload_n (pc' := 67) dX8_day_66 rfl rfl rfl ?_
            refine am_bipush (pc' := 69) dX8_day_67 rfl rfl (by decide) ?_
            refine am_callV0 (pc' := 72) (as := [_]) (ci := 7)  rfl dX8_day_69 rfl ok_X8_refused ml_X8_117 im_X8_refused se_X8_refused rfl (Nat.le_of_ble_eq_true rfl) rfl (Nat.le_of_ble_eq_true rfl) (by first | assumption | exact ⟨by omega, by omega, rfl⟩) (t8_refused hM) (fun r_69 ρ_69 h_69 q_69 g_69 e_69 => ?_)
            obtain ⟨rfl, rfl, rfl⟩ := q_69
            refine am_reti dX8_day_72 rfl ?_
            exact ⟨rfl, _, 0, rfl, md_frF_u, Or.inr (Or.inl ⟨by omega, by unfold o_dw; omega, rfl, rfl⟩)⟩
  · simp only [am_z0, am_z1, ne_eq] at c_4
    refine am_aload_n (pc' := 8) dX8_day_7 rfl rfl rfl ?_
    refine am_iconst (pc' := 9) dX8_day_8 rfl rfl ?_
    refine am_callV0 (pc' := 12) (as := [_]) (ci := 7)  rfl dX8_day_9 rfl ok_X8_refused ml_X8_117 im_X8_refused se_X8_refused rfl (Nat.le_of_ble_eq_true rfl) rfl (Nat.le_of_ble_eq_true rfl) (by first | assumption | exact ⟨by omega, by omega, rfl⟩) (t8_refused hM) (fun r_9 ρ_9 h_9 q_9 g_9 e_9 => ?_)
    obtain ⟨rfl, rfl, rfl⟩ := q_9
    refine am_reti dX8_day_12 rfl ?_
    exact ⟨rfl, _, 0, rfl, md_frF_u, Or.inl ⟨by omega, rfl, rfl⟩⟩
