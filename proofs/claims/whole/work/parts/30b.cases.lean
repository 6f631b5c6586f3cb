/-! the law, case by case -/
theorem lw_c0 {ρ h : am_H} {Lx : Nat} {xs : Int → Int} {A L S K i : Int} {Q : am_Q} (hi : 0 ≤ i ∧ i + 6 ≤ (Lx : Int)) (hLx : Lx ≤ 3072) (hJ : lw_J ρ h A L S K) (kk : ∀ ρ h A L S K, lw_J ρ h A L S K → am_WP (mL_law Lx xs) (lw_pc L K) (lw_ps L K) 1096 [some (am_R (-1)), some (am_R 1), some (am_R 38), some (am_I i)] [] ρ h Q) : am_WP (mL_law Lx xs) (lw_pc L K) (lw_ps L K) 160 [some (am_R (-1)), some (am_R 1), some (am_R 38), some (am_I i)] [] ρ h Q := by
  have hC := hJ.1.2.1.1
  have hM := hJ.1.2.1.2.1
  have hn58 := hC.1
  refine am_aload_n (pc' := 161) dL_law_160 rfl rfl rfl ?_
  refine am_aload_n (pc' := 162) dL_law_161 rfl rfl rfl ?_
  refine am_iload_n (pc' := 163) dL_law_162 rfl rfl rfl ?_
  refine am_iconst (pc' := 164) dL_law_163 rfl rfl ?_
  refine am_iadd (pc' := 165) dL_law_164 rfl ⟨by omega, by omega⟩ ?_
  refine am_sld (pc' := 166) rfl dL_law_165 rfl (by omega) (by omega) ?_
  refine am_aload_n (pc' := 167) dL_law_166 rfl rfl rfl ?_
  refine am_iload_n (pc' := 168) dL_law_167 rfl rfl rfl ?_
  refine am_iconst (pc' := 169) dL_law_168 rfl rfl ?_
  refine am_iadd (pc' := 170) dL_law_169 rfl ⟨by omega, by omega⟩ ?_
  refine am_sld (pc' := 171) rfl dL_law_170 rfl (by omega) (by omega) ?_
  refine am_aload_n (pc' := 172) dL_law_171 rfl rfl rfl ?_
  refine am_iload_n (pc' := 173) dL_law_172 rfl rfl rfl ?_
  refine am_iconst (pc' := 174) dL_law_173 rfl rfl ?_
  refine am_iadd (pc' := 175) dL_law_174 rfl ⟨by omega, by omega⟩ ?_
  refine am_sld (pc' := 176) rfl dL_law_175 rfl (by omega) (by omega) ?_
  refine am_aload_n (pc' := 177) dL_law_176 rfl rfl rfl ?_
  refine am_iload_n (pc' := 178) dL_law_177 rfl rfl rfl ?_
  refine am_iconst (pc' := 179) dL_law_178 rfl rfl ?_
  refine am_iadd (pc' := 180) dL_law_179 rfl ⟨by omega, by omega⟩ ?_
  refine am_sld (pc' := 181) rfl dL_law_180 rfl (by omega) (by omega) ?_
  refine am_callV0 (pc' := 184) (as := [_, _, _, _]) (ci := 6)  rfl dL_law_181 rfl ok_X7_ring ml_L_13 im_X7_ring se_X7_ring rfl (Nat.le_of_ble_eq_true rfl) rfl (Nat.le_of_ble_eq_true rfl) (by first | assumption | exact ⟨by omega, by omega, rfl⟩) (t_ring hJ.1) (fun r_181 ρ_181 h_181 q_181 g_181 e_181 => ?_)
  obtain ⟨rfl, hI1, q1⟩ := q_181
  have f38 : ∀ x j, 38 ≤ x → x ≤ 57 → h_181 x j = h x j := fun x j z0 z1 => by
    rcases q1 with ⟨_, _, e⟩ | ⟨_, _, _, e⟩ | ⟨_, _, _, _, e⟩ | ⟨_, _, _, _, _, _, _, e⟩ | ⟨_, _, _, _, _, c, _⟩
    · rw [e]; exact am_u_n (by omega)
    · rw [e]; exact am_u_n (by omega)
    · rw [e]; exact am_u_n (by omega)
    · rw [e]; exact am_u_n (by omega)
    · exact c x j (by simp; omega)
  have m := lw_keepM hJ f38
  have md := lw_md hJ.1.1 m
  obtain ⟨v, rfl⟩ : ∃ v, r_181 = some (am_I v) := by rcases q1 with ⟨_, e, _⟩ | ⟨_, _, e, _⟩ | ⟨_, _, _, e, _⟩ | ⟨_, _, _, _, _, _, e, _⟩ | ⟨_, _, _, _, e, _⟩ <;> exact ⟨_, e⟩
  refine am_aload_n (pc' := 185) dL_law_184 rfl rfl rfl ?_
  refine am_aload_n (pc' := 186) dL_law_185 rfl rfl rfl ?_
  refine am_iload_n (pc' := 187) dL_law_186 rfl rfl rfl ?_
  refine am_iconst (pc' := 188) dL_law_187 rfl rfl ?_
  refine am_iadd (pc' := 189) dL_law_188 rfl ⟨by omega, by omega⟩ ?_
  refine am_sld (pc' := 190) rfl dL_law_189 rfl (by omega) (by omega) ?_
  refine am_aload_n (pc' := 191) dL_law_190 rfl rfl rfl ?_
  refine am_iload_n (pc' := 192) dL_law_191 rfl rfl rfl ?_
  refine am_iconst (pc' := 193) dL_law_192 rfl rfl ?_
  refine am_iadd (pc' := 194) dL_law_193 rfl ⟨by omega, by omega⟩ ?_
  refine am_sld (pc' := 195) rfl dL_law_194 rfl (by omega) (by omega) ?_
  refine am_aload_n (pc' := 196) dL_law_195 rfl rfl rfl ?_
  refine am_iload_n (pc' := 197) dL_law_196 rfl rfl rfl ?_
  refine am_iconst (pc' := 198) dL_law_197 rfl rfl ?_
  refine am_iadd (pc' := 199) dL_law_198 rfl ⟨by omega, by omega⟩ ?_
  refine am_sld (pc' := 200) rfl dL_law_199 rfl (by omega) (by omega) ?_
  refine am_aload_n (pc' := 201) dL_law_200 rfl rfl rfl ?_
  refine am_iload_n (pc' := 202) dL_law_201 rfl rfl rfl ?_
  refine am_iconst (pc' := 203) dL_law_202 rfl rfl ?_
  refine am_iadd (pc' := 204) dL_law_203 rfl ⟨by omega, by omega⟩ ?_
  refine am_sld (pc' := 205) rfl dL_law_204 rfl (by omega) (by omega) ?_
  refine am_callV0 (pc' := 208) (as := [_, _, _, _]) (ci := 7)  rfl dL_law_205 rfl ok_X8_ring ml_L_17 im_X8_ring se_X8_ring rfl (Nat.le_of_ble_eq_true rfl) rfl (Nat.le_of_ble_eq_true rfl) (by first | assumption | exact ⟨by omega, by omega, rfl⟩) (t8_ring hM md.2.2) (fun r_205 ρ_205 h_205 q_205 g_205 e_205 => ?_)
  obtain ⟨rfl, q2⟩ := q_205
  obtain ⟨hr, J2⟩ := jt_ring hJ hI1 q1 f38 q2
  subst hr
  refine am_icmp_eq (pc' := 211) (tgt := 1096) dL_law_208 rfl rfl (fun _ => ?_) (fun c => absurd rfl c)
  exact kk _ _ _ _ _ _ J2
theorem lw_c1 {ρ h : am_H} {Lx : Nat} {xs : Int → Int} {A L S K i : Int} {Q : am_Q} (hi : 0 ≤ i ∧ i + 6 ≤ (Lx : Int)) (hLx : Lx ≤ 3072) (hJ : lw_J ρ h A L S K) (kk : ∀ ρ h A L S K, lw_J ρ h A L S K → am_WP (mL_law Lx xs) (lw_pc L K) (lw_ps L K) 1096 [some (am_R (-1)), some (am_R 1), some (am_R 38), some (am_I i)] [] ρ h Q) : am_WP (mL_law Lx xs) (lw_pc L K) (lw_ps L K) 213 [some (am_R (-1)), some (am_R 1), some (am_R 38), some (am_I i)] [] ρ h Q := by
  have hC := hJ.1.2.1.1
  have hM := hJ.1.2.1.2.1
  have hn58 := hC.1
  have md := lw_md hJ.1.1 hJ.2
  refine am_aload_n (pc' := 214) dL_law_213 rfl rfl rfl ?_
  refine am_aload_n (pc' := 215) dL_law_214 rfl rfl rfl ?_
  refine am_iload_n (pc' := 216) dL_law_215 rfl rfl rfl ?_
  refine am_iconst (pc' := 217) dL_law_216 rfl rfl ?_
  refine am_iadd (pc' := 218) dL_law_217 rfl ⟨by omega, by omega⟩ ?_
  refine am_sld (pc' := 219) rfl dL_law_218 rfl (by omega) (by omega) ?_
  refine am_aload_n (pc' := 220) dL_law_219 rfl rfl rfl ?_
  refine am_iload_n (pc' := 221) dL_law_220 rfl rfl rfl ?_
  refine am_iconst (pc' := 222) dL_law_221 rfl rfl ?_
  refine am_iadd (pc' := 223) dL_law_222 rfl ⟨by omega, by omega⟩ ?_
  refine am_sld (pc' := 224) rfl dL_law_223 rfl (by omega) (by omega) ?_
  refine am_callVp (pc' := 227) (as := [_, _]) (ci := 6)  rfl dL_law_224 rfl ok_X7_ofPlace ml_L_18 im_X7_ofPlace se_X7_ofPlace rfl (Nat.le_of_ble_eq_true rfl) rfl (Nat.le_of_ble_eq_true rfl) (by first | assumption | exact ⟨by omega, by omega, rfl⟩) (t_ofPlace hC hJ.1.1.1) ?_
  refine am_aload_n (pc' := 228) dL_law_227 rfl rfl rfl ?_
  refine am_aload_n (pc' := 229) dL_law_228 rfl rfl rfl ?_
  refine am_iload_n (pc' := 230) dL_law_229 rfl rfl rfl ?_
  refine am_iconst (pc' := 231) dL_law_230 rfl rfl ?_
  refine am_iadd (pc' := 232) dL_law_231 rfl ⟨by omega, by omega⟩ ?_
  refine am_sld (pc' := 233) rfl dL_law_232 rfl (by omega) (by omega) ?_
  refine am_aload_n (pc' := 234) dL_law_233 rfl rfl rfl ?_
  refine am_iload_n (pc' := 235) dL_law_234 rfl rfl rfl ?_
  refine am_iconst (pc' := 236) dL_law_235 rfl rfl ?_
  refine am_iadd (pc' := 237) dL_law_236 rfl ⟨by omega, by omega⟩ ?_
  refine am_sld (pc' := 238) rfl dL_law_237 rfl (by omega) (by omega) ?_
  refine am_callV0 (pc' := 241) (as := [_, _]) (ci := 7)  rfl dL_law_238 rfl ok_X8_ofPlace ml_L_22 im_X8_ofPlace se_X8_ofPlace rfl (Nat.le_of_ble_eq_true rfl) rfl (Nat.le_of_ble_eq_true rfl) (by first | assumption | exact ⟨by omega, by omega, rfl⟩) (t8_ofPlace hM md.1) (fun r_238 ρ_238 h_238 q_238 g_238 e_238 => ?_)
  obtain ⟨rfl, rfl, f2⟩ := q_238
  have e := jt_ofPlace (p := (xs (i + 1))) (w := (xs (i + 2))) hJ
  have J2 := lw_keep hJ hJ.1 (fun _ _ _ => rfl) f2
  refine am_icmp_eq (pc' := 244) (tgt := 1096) dL_law_241 rfl rfl (fun _ => ?_) (fun c => absurd e c)
  exact kk _ _ _ _ _ _ J2
theorem lw_c2 {ρ h : am_H} {Lx : Nat} {xs : Int → Int} {A L S K i : Int} {Q : am_Q} (hi : 0 ≤ i ∧ i + 6 ≤ (Lx : Int)) (hLx : Lx ≤ 3072) (hJ : lw_J ρ h A L S K) (kk : ∀ ρ h A L S K, lw_J ρ h A L S K → am_WP (mL_law Lx xs) (lw_pc L K) (lw_ps L K) 1096 [some (am_R (-1)), some (am_R 1), some (am_R 38), some (am_I i)] [] ρ h Q) : am_WP (mL_law Lx xs) (lw_pc L K) (lw_ps L K) 246 [some (am_R (-1)), some (am_R 1), some (am_R 38), some (am_I i)] [] ρ h Q := by
  have hC := hJ.1.2.1.1
  have hM := hJ.1.2.1.2.1
  have hn58 := hC.1
  refine am_aload_n (pc' := 247) dL_law_246 rfl rfl rfl ?_
  refine am_aload_n (pc' := 248) dL_law_247 rfl rfl rfl ?_
  refine am_iload_n (pc' := 249) dL_law_248 rfl rfl rfl ?_
  refine am_iconst (pc' := 250) dL_law_249 rfl rfl ?_
  refine am_iadd (pc' := 251) dL_law_250 rfl ⟨by omega, by omega⟩ ?_
  refine am_sld (pc' := 252) rfl dL_law_251 rfl (by omega) (by omega) ?_
  refine am_aload_n (pc' := 253) dL_law_252 rfl rfl rfl ?_
  refine am_iload_n (pc' := 254) dL_law_253 rfl rfl rfl ?_
  refine am_iconst (pc' := 255) dL_law_254 rfl rfl ?_
  refine am_iadd (pc' := 256) dL_law_255 rfl ⟨by omega, by omega⟩ ?_
  refine am_sld (pc' := 257) rfl dL_law_256 rfl (by omega) (by omega) ?_
  refine am_callV0 (pc' := 260) (as := [_, _]) (ci := 6)  rfl dL_law_257 rfl ok_X7_write ml_L_23 im_X7_write se_X7_write rfl (Nat.le_of_ble_eq_true rfl) rfl (Nat.le_of_ble_eq_true rfl) (by first | assumption | exact ⟨by omega, by omega, rfl⟩) (t_write hC hJ.1.1.1) (fun r_257 ρ_257 h_257 q_257 g_257 e_257 => ?_)
  obtain ⟨rfl, rfl, e1⟩ := q_257
  have f38 : ∀ x j, 38 ≤ x → x ≤ 57 → h_257 x j = h x j := fun x j z0 z1 => by rw [e1]; split <;> first | rfl | exact am_u_n (by omega)
  have m := lw_keepM hJ f38
  have md := lw_md hJ.1.1 m
  refine am_aload_n (pc' := 261) dL_law_260 rfl rfl rfl ?_
  refine am_aload_n (pc' := 262) dL_law_261 rfl rfl rfl ?_
  refine am_iload_n (pc' := 263) dL_law_262 rfl rfl rfl ?_
  refine am_iconst (pc' := 264) dL_law_263 rfl rfl ?_
  refine am_iadd (pc' := 265) dL_law_264 rfl ⟨by omega, by omega⟩ ?_
  refine am_sld (pc' := 266) rfl dL_law_265 rfl (by omega) (by omega) ?_
  refine am_aload_n (pc' := 267) dL_law_266 rfl rfl rfl ?_
  refine am_iload_n (pc' := 268) dL_law_267 rfl rfl rfl ?_
  refine am_iconst (pc' := 269) dL_law_268 rfl rfl ?_
  refine am_iadd (pc' := 270) dL_law_269 rfl ⟨by omega, by omega⟩ ?_
  refine am_sld (pc' := 271) rfl dL_law_270 rfl (by omega) (by omega) ?_
  refine am_callV0 (pc' := 274) (as := [_, _]) (ci := 7)  rfl dL_law_271 rfl ok_X8_write ml_L_26 im_X8_write se_X8_write rfl (Nat.le_of_ble_eq_true rfl) rfl (Nat.le_of_ble_eq_true rfl) (by first | assumption | exact ⟨by omega, by omega, rfl⟩) (t8_write hM md.1) (fun r_271 ρ_271 h_271 q_271 g_271 e_271 => ?_)
  obtain ⟨rfl, rfl, e2⟩ := q_271
  obtain ⟨e, J2⟩ := jt_write hJ e1 e2
  refine am_icmp_eq (pc' := 277) (tgt := 1096) dL_law_274 rfl rfl (fun _ => ?_) (fun c => absurd e c)
  exact kk _ _ _ _ _ _ J2
theorem lw_c3 {ρ h : am_H} {Lx : Nat} {xs : Int → Int} {A L S K i : Int} {Q : am_Q} (hi : 0 ≤ i ∧ i + 6 ≤ (Lx : Int)) (hLx : Lx ≤ 3072) (hJ : lw_J ρ h A L S K) (kk : ∀ ρ h A L S K, lw_J ρ h A L S K → am_WP (mL_law Lx xs) (lw_pc L K) (lw_ps L K) 1096 [some (am_R (-1)), some (am_R 1), some (am_R 38), some (am_I i)] [] ρ h Q) : am_WP (mL_law Lx xs) (lw_pc L K) (lw_ps L K) 279 [some (am_R (-1)), some (am_R 1), some (am_R 38), some (am_I i)] [] ρ h Q := by
  have hC := hJ.1.2.1.1
  have hM := hJ.1.2.1.2.1
  have hn58 := hC.1
  refine am_aload_n (pc' := 280) dL_law_279 rfl rfl rfl ?_
  refine am_aload_n (pc' := 281) dL_law_280 rfl rfl rfl ?_
  refine am_iload_n (pc' := 282) dL_law_281 rfl rfl rfl ?_
  refine am_iconst (pc' := 283) dL_law_282 rfl rfl ?_
  refine am_iadd (pc' := 284) dL_law_283 rfl ⟨by omega, by omega⟩ ?_
  refine am_sld (pc' := 285) rfl dL_law_284 rfl (by omega) (by omega) ?_
  refine am_callV0 (pc' := 288) (as := [_]) (ci := 6)  rfl dL_law_285 rfl ok_X7_steps ml_L_27 im_X7_steps se_X7_steps rfl (Nat.le_of_ble_eq_true rfl) rfl (Nat.le_of_ble_eq_true rfl) (by first | assumption | exact ⟨by omega, by omega, rfl⟩) (t_steps hC hJ.1.1.1) (fun r_285 ρ_285 h_285 q_285 g_285 e_285 => ?_)
  obtain ⟨rfl, q1⟩ := q_285
  have f38 : ∀ x j, 38 ≤ x → x ≤ 57 → h_285 x j = h x j := fun x j z0 z1 => by
    rcases q1 with ⟨_, _, e⟩ | ⟨_, _, _, e⟩ | ⟨_, _, c, _⟩
    · rw [e]
    · rw [e]
    · exact c x j (by simp; omega)
  have m := lw_keepM hJ f38
  have md := lw_md hJ.1.1 m
  obtain ⟨v, rfl⟩ : ∃ v, r_285 = some (am_I v) := by rcases q1 with ⟨_, e, _⟩ | ⟨_, _, e, _⟩ | ⟨_, _, _, _, _, _, _, e⟩ <;> exact ⟨_, e⟩
  refine am_aload_n (pc' := 289) dL_law_288 rfl rfl rfl ?_
  refine am_aload_n (pc' := 290) dL_law_289 rfl rfl rfl ?_
  refine am_iload_n (pc' := 291) dL_law_290 rfl rfl rfl ?_
  refine am_iconst (pc' := 292) dL_law_291 rfl rfl ?_
  refine am_iadd (pc' := 293) dL_law_292 rfl ⟨by omega, by omega⟩ ?_
  refine am_sld (pc' := 294) rfl dL_law_293 rfl (by omega) (by omega) ?_
  refine am_callV0 (pc' := 297) (as := [_]) (ci := 7)  rfl dL_law_294 rfl ok_X8_steps ml_L_31 im_X8_steps se_X8_steps rfl (Nat.le_of_ble_eq_true rfl) rfl (Nat.le_of_ble_eq_true rfl) (by first | assumption | exact ⟨by omega, by omega, rfl⟩) (t8_steps hM md.1) (fun r_294 ρ_294 h_294 q_294 g_294 e_294 => ?_)
  obtain ⟨rfl, q2⟩ := q_294
  obtain ⟨hr, J2⟩ := jt_steps hJ q1 q2
  subst hr
  refine am_icmp_eq (pc' := 300) (tgt := 1096) dL_law_297 rfl rfl (fun _ => ?_) (fun c => absurd rfl c)
  exact kk _ _ _ _ _ _ J2
