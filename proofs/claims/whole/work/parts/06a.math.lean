/-! Math.abs, max, min -/
section AMR
variable {M : am_M} {bc bs pc pc' idx : Nat} {ls : List (Option am_V)} {st : List am_V} {ρ h : am_H} {Q : am_Q}
theorem am_mabs {a : Int} (hd : decode M.2.1 pc = .ok (.invokestatic idx, 3)) (hp : pc + 3 = pc') (lk : am_T (.methodLink M.1.cls idx yJ9_abs_0f7a4)) (hlev : 1 ≤ M.2.2.2.2.1) (hrest : st.length ≤ 4) (hr : am_okI (-a)) (kk : am_WP M bc bs pc' ls (am_I (if 0 ≤ a then a else -a) :: st) ρ h Q) : am_WP M bc bs pc ls (am_I a :: st) ρ h Q := by
  subst hp
  intro p l e R s m args below meth c Z D cI cS A n0 ad0 Cx ad H locs cells slots lc rl os ol hl hcs hss
  have hR : R.frames = M.2.2.2.2.1 := Cx.1.2.2.2.2.2.1
  have hL : R.locals = 36 * M.2.2.2.2.1 := Cx.1.2.2.2.2.2.2.1
  have ka : am_okI a := am_okh os
  have hrm := am_room (ad := ad) hrest
  refine va_mabs (x := Int32.ofInt a) Cx.1.1.1 Cx.1.1.2.1 (Cx.1.1.2.2.1.trans hl.1.symm) Cx.1.1.2.2.2 (Cx.1.2.1 _ lk) (Cx.1.2.1 _ sm_J9_abs_0f7a4) (Cx.1.2.1 _ in_J9) (Cx.1.2.1 _ co_J9_abs_0f7a4) (by omega) (by omega) (by omega) (by omega) hd ?_
  have kw := kk p l e R s m args below meth c Z D cI cS A n0 ad0 Cx ad H locs cells slots lc rl (am_okI1 (by split <;> assumption) (am_okt os)) ol hl hcs hss
  have e9 : (if 0 ≤ Int32.ofInt a then Int32.ofInt a else 0 - Int32.ofInt a) = Int32.ofInt (if 0 ≤ a then a else -a) := by
    by_cases h0 : 0 ≤ a
    · rw [if_pos ((am_ge0 ka).mpr h0), if_pos h0]
    · rw [if_neg (fun z => h0 ((am_ge0 ka).mp z)), if_neg h0, ← am_0, ← Int32.ofInt_sub]
      congr 1; omega
  rw [e9]
  exact kw
theorem am_mmax {a b : Int} (hd : decode M.2.1 pc = .ok (.invokestatic idx, 3)) (hp : pc + 3 = pc') (lk : am_T (.methodLink M.1.cls idx yJ9_max_7cf53)) (hlev : 1 ≤ M.2.2.2.2.1) (hrest : st.length ≤ 4) (kk : am_WP M bc bs pc' ls (am_I (if a < b then b else a) :: st) ρ h Q) : am_WP M bc bs pc ls (am_I b :: am_I a :: st) ρ h Q := by
  subst hp
  intro p l e R s m args below meth c Z D cI cS A n0 ad0 Cx ad H locs cells slots lc rl os ol hl hcs hss
  have hR : R.frames = M.2.2.2.2.1 := Cx.1.2.2.2.2.2.1
  have hL : R.locals = 36 * M.2.2.2.2.1 := Cx.1.2.2.2.2.2.2.1
  have kb : am_okI b := am_okh os
  have ka : am_okI a := am_okh (am_okt os)
  have hrm := am_room (ad := ad) hrest
  refine va_mmax (x := Int32.ofInt a) (y := Int32.ofInt b) Cx.1.1.1 Cx.1.1.2.1 (Cx.1.1.2.2.1.trans hl.1.symm) Cx.1.1.2.2.2 (Cx.1.2.1 _ lk) (Cx.1.2.1 _ sm_J9_max_7cf53) (Cx.1.2.1 _ in_J9) (Cx.1.2.1 _ co_J9_max_7cf53) (by omega) (by omega) (by omega) (by omega) hd ?_
  have kw := kk p l e R s m args below meth c Z D cI cS A n0 ad0 Cx ad H locs cells slots lc rl (am_okI1 (by split <;> assumption) (am_okt (am_okt os))) ol hl hcs hss
  have e9 : (if Int32.ofInt a < Int32.ofInt b then Int32.ofInt b else Int32.ofInt a) = Int32.ofInt (if a < b then b else a) := by
    by_cases h0 : a < b
    · rw [if_pos ((am_lt ka kb).mpr h0), if_pos h0]
    · rw [if_neg (fun z => h0 ((am_lt ka kb).mp z)), if_neg h0]
  rw [e9]
  exact kw
theorem am_mmin {a b : Int} (hd : decode M.2.1 pc = .ok (.invokestatic idx, 3)) (hp : pc + 3 = pc') (lk : am_T (.methodLink M.1.cls idx yJ9_min_7cf53)) (hlev : 1 ≤ M.2.2.2.2.1) (hrest : st.length ≤ 4) (hab : a ≤ b) (kk : am_WP M bc bs pc' ls (am_I a :: st) ρ h Q) : am_WP M bc bs pc ls (am_I b :: am_I a :: st) ρ h Q := by
  subst hp
  intro p l e R s m args below meth c Z D cI cS A n0 ad0 Cx ad H locs cells slots lc rl os ol hl hcs hss
  have hR : R.frames = M.2.2.2.2.1 := Cx.1.2.2.2.2.2.1
  have hL : R.locals = 36 * M.2.2.2.2.1 := Cx.1.2.2.2.2.2.2.1
  have kb : am_okI b := am_okh os
  have ka : am_okI a := am_okh (am_okt os)
  have hrm := am_room (ad := ad) hrest
  refine va_mmin (x := Int32.ofInt a) (y := Int32.ofInt b) Cx.1.1.1 Cx.1.1.2.1 (Cx.1.1.2.2.1.trans hl.1.symm) Cx.1.1.2.2.2 (Cx.1.2.1 _ lk) (Cx.1.2.1 _ sm_J9_min_7cf53) (Cx.1.2.1 _ in_J9) (Cx.1.2.1 _ co_J9_min_7cf53) (by omega) (by omega) (by omega) (by omega) hd ?_
  have kw := kk p l e R s m args below meth c Z D cI cS A n0 ad0 Cx ad H locs cells slots lc rl (am_okI1 ka (am_okt (am_okt os))) ol hl hcs hss
  have e9 : ¬ Int32.ofInt b < Int32.ofInt a := by rw [am_lt kb ka]; omega
  simp only [e9, if_false]
  exact kw
end AMR
