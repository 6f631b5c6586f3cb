/-! the model: tables; 45 nextOf, 46 fromOf, 47 goneAt, 48 tailOf, 49 outOf; 38/18 gone, 38/19 barren -/
theorem t8_takesAway {ρ h : am_H} {r : Int} (hM : am_LM ρ) (hg : 0 ≤ h 38 18 ∧ h 38 18 < 7776) : am_CT mX8_takesAway 0 0 [am_R 38, am_I r] ρ h (fun v ρ' h' => v = none ∧ ρ' = ρ ∧ h' = am_u (am_u h 47 (h 38 18) r) 38 18 (h 38 18 + 1)) := by
  have hn58 := hM.1
  have e1 := am_lm hM 38 15 47 (by decide)
  have e3 := am_lm hM 47 (-1) 7776 (by decide)
  refine am_ct (ls := [some (am_R 38), some (am_I r)]) ok_X8_takesAway rfl (fun _ => Nat.le_of_ble_eq_true rfl) (fun _ => rfl) (by intro v hv; simpa using hv) ?_
  refine am_aload_n (pc' := 1) dX8_takesAway_0 rfl rfl rfl ?_
  refine am_getRk (ki := 15) (pc' := 4) (k := 15) (ci := 7) rfl dX8_takesAway_1 rfl fl_X8_34 (by first | assumption | exact ⟨by omega, by omega, rfl⟩) rfl (by assumption) (by omega) ?_
  refine am_aload_n (pc' := 5) dX8_takesAway_4 rfl rfl rfl ?_
  refine am_getIk (ki := 18) (pc' := 8) (k := 18) (ci := 7) rfl dX8_takesAway_5 rfl fl_X8_167 (by first | assumption | exact ⟨by omega, by omega, rfl⟩) rfl ?_
  refine am_iload_n (pc' := 9) dX8_takesAway_8 rfl rfl rfl ?_
  refine am_iastore (pc' := 10) dX8_takesAway_9 rfl (by first | assumption | exact ⟨by omega, by omega, rfl⟩) (by omega) (by omega) ?_
  refine am_aload_n (pc' := 11) dX8_takesAway_10 rfl rfl rfl ?_
  first | refine am_dupR (pc' := 12) dX8_takesAway_11 rfl ?_ | refine am_dupI (pc' := 12) dX8_takesAway_11 rfl ?_
  refine am_getIk (ki := 18) (pc' := 15) (k := 18) (ci := 7) rfl dX8_takesAway_12 rfl fl_X8_167 (by first | assumption | exact ⟨by omega, by omega, rfl⟩) rfl ?_
  rw [am_u_n (by omega)]
  refine am_iconst (pc' := 16) dX8_takesAway_15 rfl rfl ?_
  refine am_iadd (pc' := 17) dX8_takesAway_16 rfl ⟨by omega, by omega⟩ ?_
  refine am_putIk (ki := 18) (pc' := 20) (k := 18) (ci := 7) rfl dX8_takesAway_17 rfl fl_X8_167 (by first | assumption | exact ⟨by omega, by omega, rfl⟩) rfl (fun _ _ _ e => by cases e; rfl) ?_
  refine am_retv dX8_takesAway_20 rfl ?_
  exact ⟨rfl, rfl, rfl⟩
def md_out (nx : Int → Int) (c v : Int) : Prop := (v = 1 ∧ gr_out nx c) ∨ (v = 0 ∧ ¬ gr_out nx c)
theorem md_out_s {nx : Int → Int} {c v : Int} (h0 : nx 0 = 0) (h : md_out nx (nx c) v) : md_out nx c v := by
  unfold md_out at h ⊢
  rw [← gr_out_s h0] at h
  exact h
/-- what the tables tell -/
def md_tb (h : am_H) (nx : Int → Int) (N : Int) : Prop := (∀ c, 0 ≤ c → c < N → h 45 c = nx c) ∧ (∀ c, 0 ≤ c → c < N → gr_tl nx c (h 48 c) ∧ md_out nx c (h 49 c)) ∧ (∀ c, 0 ≤ c → c < N → (0 < h 46 c ↔ onc nx c))
theorem t8_tb5 {ρ h : am_H} {N q : Int} {nx od : Int → Int} {Q : am_Q} (hM : am_LM ρ) (hN : 0 < N ∧ N ≤ 7776) (h00 : nx 0 = 0) (hin : gr_in nx N) (hnx : ∀ c, 0 ≤ c → c < N → h 45 c = nx c) (hod : ∀ i, 0 ≤ i → i < q → h 47 i = od i) (hqN : q ≤ N)
    (p1 : ∀ i, 0 ≤ i → i < q → 0 ≤ od i ∧ od i < N) (p2 : ∀ i j, 0 ≤ i → i < j → j < q → od i ≠ od j) (p3 : ∀ c, 0 ≤ c → c < N → (¬ onc nx c ↔ pr_pc od q c)) (p4 : ∀ i j, 0 ≤ i → i < q → 0 ≤ j → j < q → nx (od i) = od j → i < j)
    (hq : ∀ h1, am_fr [48, 49] h h1 → (∀ c, 0 ≤ c → c < N → gr_tl nx c (h1 48 c) ∧ md_out nx c (h1 49 c)) → Q none ρ h1) :
    ∀ (n : Nat) (k : Int) (h1 : am_H) (v : Option am_V), k < n → -1 ≤ k → k < q → am_fr [48, 49] h h1 → (∀ c, 0 ≤ c → c < N → onc nx c → gr_tl nx c (h1 48 c) ∧ md_out nx c (h1 49 c)) → (∀ i, k < i → i < q → gr_tl nx (od i) (h1 48 (od i)) ∧ md_out nx (od i) (h1 49 (od i))) →
      am_WP mX8_tables 0 0 193 [some (am_R 38), some (am_I N), some (am_I k), v] [] ρ h1 Q := by
  have hn58 := hM.1
  have e1 := am_lm hM 38 13 45 (by decide)
  have e2 := am_lm hM 38 15 47 (by decide)
  have e3 := am_lm hM 38 16 48 (by decide)
  have e4 := am_lm hM 38 17 49 (by decide)
  have l1 := am_lm hM 45 (-1) 7776 (by decide)
  have l2 := am_lm hM 47 (-1) 7776 (by decide)
  have l3 := am_lm hM 48 (-1) 7776 (by decide)
  have l4 := am_lm hM 49 (-1) 7776 (by decide)
  intro n
  induction n with
  | zero =>
    intro k h1 v a b d hf hg1 hg2
    refine am_iload_n (pc' := 194) dX8_tables_193 rfl rfl rfl ?_
    refine am_if_lt (pc' := 197) (tgt := 259) dX8_tables_194 rfl rfl (fun c_194 => ?_) (fun c_194 => ?_)
    · refine am_retv dX8_tables_259 rfl ?_
      refine hq h1 hf (fun c c0 c1 => ?_)
      by_cases z : onc nx c
      · exact hg1 c c0 c1 z
      · obtain ⟨i, i0, i1, e⟩ := (p3 c c0 c1).mp z
        rw [← e]; exact hg2 i (by omega) i1
    · exfalso; omega
  | succ n ih =>
    intro k h1 v a b d hf hg1 hg2
    have g4 : h1 45 = h 45 := funext fun k => hf 45 k (by simp <;> omega)
    have g5 : h1 47 = h 47 := funext fun k => hf 47 k (by simp <;> omega)
    have S : 0 ≤ k → gr_tl nx (nx (od k)) (h1 48 (nx (od k))) ∧ md_out nx (nx (od k)) (h1 49 (nx (od k))) := fun z => by
      have hk := p1 k z d
      have ht := hin _ hk.1 hk.2
      by_cases y : onc nx (nx (od k))
      · exact hg1 _ ht.1 ht.2 y
      · obtain ⟨j, j0, j1, e⟩ := (p3 _ ht.1 ht.2).mp y
        rw [← e]
        exact hg2 j (p4 k j z d j0 j1 e.symm) j1
    refine am_iload_n (pc' := 194) dX8_tables_193 rfl rfl rfl ?_
    refine am_if_lt (pc' := 197) (tgt := 259) dX8_tables_194 rfl rfl (fun c_194 => ?_) (fun c_194 => ?_)
    · refine am_retv dX8_tables_259 rfl ?_
      refine hq h1 hf (fun c c0 c1 => ?_)
      by_cases z : onc nx c
      · exact hg1 c c0 c1 z
      · obtain ⟨i, i0, i1, e⟩ := (p3 c c0 c1).mp z
        rw [← e]; exact hg2 i (by omega) i1
    · have hk := p1 k (by omega) d
      have ht := hin _ hk.1 hk.2
      have hnn : h1 45 (od k) = nx (od k) := by rw [g4]; exact hnx _ hk.1 hk.2
      have hoo : h1 47 k = od k := by rw [g5]; exact hod k (by omega) d
      have hS := S (by omega)
      have hb1 := gr_tl_lt hin ht.1 ht.2 hS.1
      have hb0 := hS.1.1
      have hno : ¬ onc nx (od k) := (p3 _ hk.1 hk.2).mpr ⟨k, by omega, d, rfl⟩
      refine am_aload_n (pc' := 198) dX8_tables_197 rfl rfl rfl ?_
      refine am_getRk (ki := 16) (pc' := 201) (k := 16) (ci := 7) rfl dX8_tables_198 rfl fl_X8_37 (by first | assumption | exact ⟨by omega, by omega, rfl⟩) rfl (by assumption) (by omega) ?_
      refine am_aload_n (pc' := 202) dX8_tables_201 rfl rfl rfl ?_
      refine am_getRk (ki := 15) (pc' := 205) (k := 15) (ci := 7) rfl dX8_tables_202 rfl fl_X8_34 (by first | assumption | exact ⟨by omega, by omega, rfl⟩) rfl (by assumption) (by omega) ?_
      refine am_iload_n (pc' := 206) dX8_tables_205 rfl rfl rfl ?_
      refine am_iaload (pc' := 207) dX8_tables_206 rfl (by first | assumption | exact ⟨by omega, by omega, rfl⟩) (by omega) (by omega) ?_
      rw [hoo]
      refine am_aload_n (pc' := 208) dX8_tables_207 rfl rfl rfl ?_
      refine am_getRk (ki := 16) (pc' := 211) (k := 16) (ci := 7) rfl dX8_tables_208 rfl fl_X8_37 (by first | assumption | exact ⟨by omega, by omega, rfl⟩) rfl (by assumption) (by omega) ?_
      refine am_aload_n (pc' := 212) dX8_tables_211 rfl rfl rfl ?_
      refine am_getRk (ki := 13) (pc' := 215) (k := 13) (ci := 7) rfl dX8_tables_212 rfl fl_X8_28 (by first | assumption | exact ⟨by omega, by omega, rfl⟩) rfl (by assumption) (by omega) ?_
      refine am_aload_n (pc' := 216) dX8_tables_215 rfl rfl rfl ?_
      refine am_getRk (ki := 15) (pc' := 219) (k := 15) (ci := 7) rfl dX8_tables_216 rfl fl_X8_34 (by first | assumption | exact ⟨by omega, by omega, rfl⟩) rfl (by assumption) (by omega) ?_
      refine am_iload_n (pc' := 220) dX8_tables_219 rfl rfl rfl ?_
      refine am_iaload (pc' := 221) dX8_tables_220 rfl (by first | assumption | exact ⟨by omega, by omega, rfl⟩) (by omega) (by omega) ?_
      rw [hoo]
      refine am_iaload (pc' := 222) dX8_tables_221 rfl (by first | assumption | exact ⟨by omega, by omega, rfl⟩) (by omega) (by omega) ?_
      rw [hnn]
      refine am_iaload (pc' := 223) dX8_tables_222 rfl (by first | assumption | exact ⟨by omega, by omega, rfl⟩) (by omega) (by omega) ?_
      refine am_iconst (pc' := 224) dX8_tables_223 rfl rfl ?_
      refine am_iadd (pc' := 225) dX8_tables_224 rfl ⟨by omega, by omega⟩ ?_
      refine am_iastore (pc' := 226) dX8_tables_225 rfl (by first | assumption | exact ⟨by omega, by omega, rfl⟩) (by omega) (by omega) ?_
      refine am_aload_n (pc' := 227) dX8_tables_226 rfl rfl rfl ?_
      refine am_getRk (ki := 17) (pc' := 230) (k := 17) (ci := 7) rfl dX8_tables_227 rfl fl_X8_40 (by first | assumption | exact ⟨by omega, by omega, rfl⟩) rfl (by assumption) (by omega) ?_
      refine am_aload_n (pc' := 231) dX8_tables_230 rfl rfl rfl ?_
      refine am_getRk (ki := 15) (pc' := 234) (k := 15) (ci := 7) rfl dX8_tables_231 rfl fl_X8_34 (by first | assumption | exact ⟨by omega, by omega, rfl⟩) rfl (by assumption) (by omega) ?_
      refine am_iload_n (pc' := 235) dX8_tables_234 rfl rfl rfl ?_
      refine am_iaload (pc' := 236) dX8_tables_235 rfl (by first | assumption | exact ⟨by omega, by omega, rfl⟩) (by omega) (by omega) ?_
      rw [am_u_n (by omega), hoo]
      refine am_aload_n (pc' := 237) dX8_tables_236 rfl rfl rfl ?_
      refine am_getRk (ki := 17) (pc' := 240) (k := 17) (ci := 7) rfl dX8_tables_237 rfl fl_X8_40 (by first | assumption | exact ⟨by omega, by omega, rfl⟩) rfl (by assumption) (by omega) ?_
      refine am_aload_n (pc' := 241) dX8_tables_240 rfl rfl rfl ?_
      refine am_getRk (ki := 13) (pc' := 244) (k := 13) (ci := 7) rfl dX8_tables_241 rfl fl_X8_28 (by first | assumption | exact ⟨by omega, by omega, rfl⟩) rfl (by assumption) (by omega) ?_
      refine am_aload_n (pc' := 245) dX8_tables_244 rfl rfl rfl ?_
      refine am_getRk (ki := 15) (pc' := 248) (k := 15) (ci := 7) rfl dX8_tables_245 rfl fl_X8_34 (by first | assumption | exact ⟨by omega, by omega, rfl⟩) rfl (by assumption) (by omega) ?_
      refine am_iload_n (pc' := 249) dX8_tables_248 rfl rfl rfl ?_
      refine am_iaload (pc' := 250) dX8_tables_249 rfl (by first | assumption | exact ⟨by omega, by omega, rfl⟩) (by omega) (by omega) ?_
      rw [am_u_n (by omega), hoo]
      refine am_iaload (pc' := 251) dX8_tables_250 rfl (by first | assumption | exact ⟨by omega, by omega, rfl⟩) (by omega) (by omega) ?_
      rw [am_u_n (by omega), hnn]
      refine am_iaload (pc' := 252) dX8_tables_251 rfl (by first | assumption | exact ⟨by omega, by omega, rfl⟩) (by omega) (by omega) ?_
      rw [am_u_n (by omega)]
      refine am_iastore (pc' := 253) dX8_tables_252 rfl (by first | assumption | exact ⟨by omega, by omega, rfl⟩) (by omega) (by omega) ?_
      refine am_iinc (pc' := 256) (ls' := [_, _, _, _]) dX8_tables_253 rfl rfl ⟨by omega, by omega⟩ (Nat.le_of_ble_eq_true rfl) rfl rfl ?_
      refine am_goto (pc' := 193) dX8_tables_256 rfl ?_
      refine ih _ _ _ (by omega) (by omega) (by omega) (am_fr_u (am_fr_u hf (by simp <;> omega)) (by simp <;> omega)) (fun c c0 c1 hc => ?_) (fun i i0 i1 => ?_)
      · have hne : c ≠ od k := fun z => hno (z ▸ hc)
        rw [am_u_n (by omega), am_u_n (by omega), am_u_n (by omega), am_u_n (by omega)]; exact hg1 c c0 c1 hc
      · by_cases z : i = k
        · rw [z, am_u_n (by omega), am_u_s, am_u_s]; exact ⟨gr_tl_s hno hS.1, md_out_s h00 hS.2⟩
        · have hne : od i ≠ od k := fun y => p2 k i (by omega) (by omega) i1 y.symm
          rw [am_u_n (by omega), am_u_n (by omega), am_u_n (by omega), am_u_n (by omega)]; exact hg2 i (by omega) i1
theorem t8_tb4 {ρ h : am_H} {N b : Int} {nx : Int → Int} {Q : am_Q} (hM : am_LM ρ) (hN : 0 < N ∧ N ≤ 7776) (hin : gr_in nx N) (hnx : ∀ c, 0 ≤ c → c < N → h 45 c = nx c)
    (K : ∀ h1 x v, am_fr [38, 46, 47] h h1 → (∀ k, k ≠ 18 → k ≠ 19 → h1 38 k = h 38 k) → h1 38 19 = b → pr_I nx N (h1 46) (h1 47) (h1 38 18) (h1 38 18) → am_WP mX8_tables 0 0 186 [some (am_R 38), some (am_I N), some (am_I x), v] [] ρ h1 Q) :
    ∀ (n : Nat) (x : Int) (h1 : am_H) (v : Option am_V), (N - x).toNat < n → 0 ≤ x → am_fr [38, 46, 47] h h1 → (∀ k, k ≠ 18 → k ≠ 19 → h1 38 k = h 38 k) → h1 38 19 = b → pr_I nx N (h1 46) (h1 47) (h1 38 18) x → am_WP mX8_tables 0 0 136 [some (am_R 38), some (am_I N), some (am_I x), v] [] ρ h1 Q := by
  have hn58 := hM.1
  have e1 := am_lm hM 38 13 45 (by decide)
  have e2 := am_lm hM 38 15 47 (by decide)
  have e3 := am_lm hM 38 14 46 (by decide)
  have l1 := am_lm hM 45 (-1) 7776 (by decide)
  have l2 := am_lm hM 47 (-1) 7776 (by decide)
  have l3 := am_lm hM 46 (-1) 7776 (by decide)
  intro n
  induction n with
  | zero => intro x h1 v hk; omega
  | succ n ih =>
    intro x h1 v hk h0 hf hg hbr hp
    have g4 : h1 45 = h 45 := funext fun k => hf 45 k (by simp <;> omega)
    have hb := hp.1
    have K180 : ∀ (h2 : am_H) (w : Option am_V), x < N → am_fr [38, 46, 47] h h2 → (∀ k, k ≠ 18 → k ≠ 19 → h2 38 k = h 38 k) → h2 38 19 = b → pr_I nx N (h2 46) (h2 47) (h2 38 18) (x + 1) → am_WP mX8_tables 0 0 180 [some (am_R 38), some (am_I N), some (am_I x), w] [] ρ h2 Q := by
      intro h2 w hxn a b d e
      refine am_iinc (pc' := 183) (ls' := [_, _, _, _]) dX8_tables_180 rfl rfl ⟨by omega, by omega⟩ (Nat.le_of_ble_eq_true rfl) rfl rfl ?_
      refine am_goto (pc' := 136) dX8_tables_183 rfl ?_
      exact ih _ _ _ (by omega) (by omega) a b d e
    refine am_iload_n (pc' := 137) dX8_tables_136 rfl rfl rfl ?_
    refine am_aload_n (pc' := 138) dX8_tables_137 rfl rfl rfl ?_
    refine am_getIk (ki := 18) (pc' := 141) (k := 18) (ci := 7) rfl dX8_tables_138 rfl fl_X8_167 (by first | assumption | exact ⟨by omega, by omega, rfl⟩) rfl ?_
    refine am_icmp_ge (pc' := 144) (tgt := 186) dX8_tables_141 rfl rfl (fun c_141 => ?_) (fun c_141 => ?_)
    · have e9 : x = h1 38 18 := by omega
      subst e9; exact K h1 _ _ hf hg hbr hp
    · have hod := hp.2.1 x h0 (by omega)
      have hto := hin _ hod.1 hod.2
      have hcmb := pr_pos hp hin (by omega)
      have hnn : h1 45 (h1 47 x) = nx (h1 47 x) := by rw [g4]; exact hnx _ hod.1 hod.2
      have hcle : h1 46 (nx (h1 47 x)) ≤ N := by rw [hp.2.2.2.1 _ hto.1 hto.2]; have := mt_sum_nn (f := fun d => mt_ch (nx d = nx (h1 47 x) ∧ ¬ pr_pc (h1 47) x d)) (M := 1) (n := N.toNat) (fun p _ _ => mt_ch_in _); unfold pr_cm; omega
      refine am_aload_n (pc' := 145) dX8_tables_144 rfl rfl rfl ?_
      refine am_getRk (ki := 13) (pc' := 148) (k := 13) (ci := 7) rfl dX8_tables_145 rfl fl_X8_28 (by first | assumption | exact ⟨by omega, by omega, rfl⟩) rfl (by assumption) (by omega) ?_
      refine am_aload_n (pc' := 149) dX8_tables_148 rfl rfl rfl ?_
      refine am_getRk (ki := 15) (pc' := 152) (k := 15) (ci := 7) rfl dX8_tables_149 rfl fl_X8_34 (by first | assumption | exact ⟨by omega, by omega, rfl⟩) rfl (by assumption) (by omega) ?_
      refine am_iload_n (pc' := 153) dX8_tables_152 rfl rfl rfl ?_
      refine am_iaload (pc' := 154) dX8_tables_153 rfl (by first | assumption | exact ⟨by omega, by omega, rfl⟩) (by omega) (by omega) ?_
      refine am_iaload (pc' := 155) dX8_tables_154 rfl (by first | assumption | exact ⟨by omega, by omega, rfl⟩) (by omega) (by omega) ?_
      rw [hnn]
      refine am_istore_n (pc' := 156) (ls' := [_, _, _, _]) dX8_tables_155 rfl rfl (Nat.le_of_ble_eq_true rfl) rfl rfl ?_
      refine am_aload_n (pc' := 157) dX8_tables_156 rfl rfl rfl ?_
      refine am_getRk (ki := 14) (pc' := 160) (k := 14) (ci := 7) rfl dX8_tables_157 rfl fl_X8_31 (by first | assumption | exact ⟨by omega, by omega, rfl⟩) rfl (by assumption) (by omega) ?_
      refine am_iload_n (pc' := 161) dX8_tables_160 rfl rfl rfl ?_
      refine am_dup2 (pc' := 162) dX8_tables_161 rfl ?_
      refine am_iaload (pc' := 163) dX8_tables_162 rfl (by first | assumption | exact ⟨by omega, by omega, rfl⟩) (by omega) (by omega) ?_
      refine am_iconst (pc' := 164) dX8_tables_163 rfl rfl ?_
      refine am_isub (pc' := 165) dX8_tables_164 rfl ⟨by omega, by omega⟩ ?_
      refine am_iastore (pc' := 166) dX8_tables_165 rfl (by first | assumption | exact ⟨by omega, by omega, rfl⟩) (by omega) (by omega) ?_
      generalize hg2 : am_u h1 46 (nx (h1 47 x)) (h1 46 (nx (h1 47 x)) - 1) = h2
      have u1 : ∀ c, h2 46 c = if c = nx (h1 47 x) then h1 46 c - 1 else h1 46 c := fun c => by
        rw [← hg2]
        by_cases z : c = nx (h1 47 x)
        · rw [z, am_u_s, if_pos rfl]
        · rw [am_u_n (by omega), if_neg z]
      have u3 : h2 47 = h1 47 := funext fun k => by rw [← hg2]; exact am_u_n (by omega)
      have u4 : ∀ k, h2 38 k = h1 38 k := fun k => by rw [← hg2]; exact am_u_n (by omega)
      have fr2 : am_fr [38, 46, 47] h h2 := by rw [← hg2]; exact am_fr_u hf (by simp <;> omega)
      refine am_aload_n (pc' := 167) dX8_tables_166 rfl rfl rfl ?_
      refine am_getRk (ki := 14) (pc' := 170) (k := 14) (ci := 7) rfl dX8_tables_167 rfl fl_X8_31 (by first | assumption | exact ⟨by omega, by omega, rfl⟩) rfl (by assumption) (by omega) ?_
      refine am_iload_n (pc' := 171) dX8_tables_170 rfl rfl rfl ?_
      refine am_iaload (pc' := 172) dX8_tables_171 rfl (by first | assumption | exact ⟨by omega, by omega, rfl⟩) (by omega) (by omega) ?_
      rw [u1, if_pos rfl]
      refine am_if_ne (pc' := 175) (tgt := 180) dX8_tables_172 rfl rfl (fun c_172 => ?_) (fun c_172 => ?_)
      · first | exact K180 h2 _ (by omega) fr2 (fun k z0 z1 => by rw [u4]; exact hg k z0 z1) (by rw [u4]; exact hbr) (by rw [u3, u4]; exact pr_stepB hp hin (by omega) (fun c z0 z1 => u1 c) c_172) | exact K180 _ _ (by omega) (am_fr_u (am_fr_u fr2 (by simp <;> omega)) (by simp <;> omega)) (fun k z0 z1 => by rw [am_u_n (by omega), am_u_n (by omega), u4]; exact hg k z0 z1) (by rw [am_u_n (by omega), am_u_n (by omega), u4]; exact hbr) (by rw [am_u_s, u4]; exact pr_stepA (by omega) hp hin (by omega) (fun c z0 z1 => by rw [am_u_n (by omega), am_u_n (by omega)]; exact u1 c) c_172 (fun i z0 z1 => by rw [am_u_n (by omega)]; rw [am_u_if, u3]))
      · have hA9 := pr_stepA (cm' := h2 46) (od' := fun i => if i = h1 38 18 then nx (h1 47 x) else h1 47 i) (by omega) hp hin (by omega) (fun c z0 z1 => u1 c) c_172 (fun i _ _ => rfl)
        have hb9 := hA9.1
        have hb8 := pr_bound (by omega) (by omega) hA9.2.1 hA9.2.2.1
        refine am_aload_n (pc' := 176) dX8_tables_175 rfl rfl rfl ?_
        refine am_iload_n (pc' := 177) dX8_tables_176 rfl rfl rfl ?_
        refine am_callV0 (pc' := 180) (as := [_]) (ci := 7)  rfl dX8_tables_177 rfl ok_X8_takesAway ml_X8_176 im_X8_takesAway se_X8_takesAway rfl (Nat.le_of_ble_eq_true rfl) rfl (Nat.le_of_ble_eq_true rfl) (by first | assumption | exact ⟨by omega, by omega, rfl⟩) (t8_takesAway (h := h2) hM (by rw [u4]; omega)) (fun r_177 ρ_177 h_177 q_177 g_177 e_177 => ?_)
        obtain ⟨rfl, rfl, rfl⟩ := q_177
        first | exact K180 h2 _ (by omega) fr2 (fun k z0 z1 => by rw [u4]; exact hg k z0 z1) (by rw [u4]; exact hbr) (by rw [u3, u4]; exact pr_stepB hp hin (by omega) (fun c z0 z1 => u1 c) c_172) | exact K180 _ _ (by omega) (am_fr_u (am_fr_u fr2 (by simp <;> omega)) (by simp <;> omega)) (fun k z0 z1 => by rw [am_u_n (by omega), am_u_n (by omega), u4]; exact hg k z0 z1) (by rw [am_u_n (by omega), am_u_n (by omega), u4]; exact hbr) (by rw [am_u_s, u4]; exact pr_stepA (by omega) hp hin (by omega) (fun c z0 z1 => by rw [am_u_n (by omega), am_u_n (by omega)]; exact u1 c) c_172 (fun i z0 z1 => by rw [am_u_n (by omega)]; rw [am_u_if, u3]))
theorem t8_tb3 {ρ h : am_H} {N : Int} {Q : am_Q} (hM : am_LM ρ) (hN : 0 < N ∧ N ≤ 7776)
    (K : ∀ h1 v, am_fr [38, 47] h h1 → (∀ k, k ≠ 18 → h1 38 k = h 38 k) → pr_0 N (h 46) (h1 47) (h1 38 18) N → am_WP mX8_tables 0 0 126 [some (am_R 38), some (am_I N), some (am_I N), v] [] ρ h1 Q) :
    ∀ (n : Nat) (row : Int) (h1 : am_H) (v : Option am_V), (N - row).toNat < n → 0 ≤ row → row ≤ N → am_fr [38, 47] h h1 → (∀ k, k ≠ 18 → h1 38 k = h 38 k) → pr_0 N (h 46) (h1 47) (h1 38 18) row → am_WP mX8_tables 0 0 101 [some (am_R 38), some (am_I N), some (am_I row), v] [] ρ h1 Q := by
  have hn58 := hM.1
  have e3 := am_lm hM 38 14 46 (by decide)
  have l3 := am_lm hM 46 (-1) 7776 (by decide)
  intro n
  induction n with
  | zero => intro row h1 v hk; omega
  | succ n ih =>
    intro row h1 v hk h0 h9 hf hg hp
    have g4 : h1 46 = h 46 := funext fun k => hf 46 k (by simp <;> omega)
    have hb := hp.1
    refine am_iload_n (pc' := 102) dX8_tables_101 rfl rfl rfl ?_
    refine am_iload_n (pc' := 103) dX8_tables_102 rfl rfl rfl ?_
    refine am_icmp_ge (pc' := 106) (tgt := 126) dX8_tables_103 rfl rfl (fun c_103 => ?_) (fun c_103 => ?_)
    · have e9 : row = N := by omega
      subst e9
      exact K h1 _ hf hg hp
    · refine am_aload_n (pc' := 107) dX8_tables_106 rfl rfl rfl ?_
      refine am_getRk (ki := 14) (pc' := 110) (k := 14) (ci := 7) rfl dX8_tables_107 rfl fl_X8_31 (by first | assumption | exact ⟨by omega, by omega, rfl⟩) rfl (by assumption) (by omega) ?_
      refine am_iload_n (pc' := 111) dX8_tables_110 rfl rfl rfl ?_
      refine am_iaload (pc' := 112) dX8_tables_111 rfl (by first | assumption | exact ⟨by omega, by omega, rfl⟩) (by omega) (by omega) ?_
      refine am_if_ne (pc' := 115) (tgt := 120) dX8_tables_112 rfl rfl (fun c_112 => ?_) (fun c_112 => ?_)
      · refine am_iinc (pc' := 123) (ls' := [_, _, _, _]) dX8_tables_120 rfl rfl ⟨by omega, by omega⟩ (Nat.le_of_ble_eq_true rfl) rfl rfl ?_
        refine am_goto (pc' := 101) dX8_tables_123 rfl ?_
        first | (refine ih _ _ _ (by omega) (by omega) (by omega) hf hg (pr_0_B hp (by omega) (by rw [← g4]; exact c_112)); done) | (refine ih _ _ _ (by omega) (by omega) (by omega) (am_fr_u (am_fr_u hf (by simp <;> omega)) (by simp <;> omega)) (fun k hk => by rw [am_u_n (by omega), am_u_n (by omega)]; exact hg k hk) ?_; rw [am_u_s]; refine pr_0_A hp (by omega) hcz (fun i z0 z1 => ?_); rw [am_u_n (by omega)]; rw [am_u_if])
      · have hcz : h 46 row = 0 := by rw [← g4]; exact c_112
        refine am_aload_n (pc' := 116) dX8_tables_115 rfl rfl rfl ?_
        refine am_iload_n (pc' := 117) dX8_tables_116 rfl rfl rfl ?_
        refine am_callV0 (pc' := 120) (as := [_]) (ci := 7)  rfl dX8_tables_117 rfl ok_X8_takesAway ml_X8_176 im_X8_takesAway se_X8_takesAway rfl (Nat.le_of_ble_eq_true rfl) rfl (Nat.le_of_ble_eq_true rfl) (by first | assumption | exact ⟨by omega, by omega, rfl⟩) (t8_takesAway (h := h1) hM (by omega)) (fun r_117 ρ_117 h_117 q_117 g_117 e_117 => ?_)
        obtain ⟨rfl, rfl, rfl⟩ := q_117
        refine am_iinc (pc' := 123) (ls' := [_, _, _, _]) dX8_tables_120 rfl rfl ⟨by omega, by omega⟩ (Nat.le_of_ble_eq_true rfl) rfl rfl ?_
        refine am_goto (pc' := 101) dX8_tables_123 rfl ?_
        first | (refine ih _ _ _ (by omega) (by omega) (by omega) hf hg (pr_0_B hp (by omega) (by rw [← g4]; exact c_112)); done) | (refine ih _ _ _ (by omega) (by omega) (by omega) (am_fr_u (am_fr_u hf (by simp <;> omega)) (by simp <;> omega)) (fun k hk => by rw [am_u_n (by omega), am_u_n (by omega)]; exact hg k hk) ?_; rw [am_u_s]; refine pr_0_A hp (by omega) hcz (fun i z0 z1 => ?_); rw [am_u_n (by omega)]; rw [am_u_if])
