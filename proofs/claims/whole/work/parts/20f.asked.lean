/-! a call with much below it on the stack -/
section AMR
variable {M M' : am_M} {bc bs mc ms pc pc' tgt idx n : Nat} {ls ls' : List (Option am_V)} {st rest : List am_V} {ρ h : am_H} {Q Q' : am_Q}
theorem am_callW {as : List am_V} {b : Int} {ci N : Nat} {C : String} {T : u_T} (hd : decode M.2.1 pc = .ok (.invokevirtual idx, 3)) (hp : pc + 3 = pc') (hok : am_ok M' n) (lk : am_T (.methodLink M.1.cls idx M'.1)) (wi : am_T (.instanceMethod M'.1)) (ws : am_T (.selects C M'.1 M'.1)) (hc : vwCl[ci]? = some (C, T, N)) (hlev : M'.2.2.2.2.1 + 1 ≤ M.2.2.2.2.1) (hb : am_in ρ b ci) (hn : as.length = n) (hrest : ∀ ad, ((rest.map (am_c ad)).map fun v => v.category).sum ≤ 8) (hst : st = as.reverse ++ am_R b :: rest)
    (ct : am_CT M' mc ms (am_R b :: as) ρ h Q') (kk : ∀ r ρ' h', Q' r ρ' h' → am_rng ρ' h' → ρ 0 0 ≤ ρ' 0 0 → am_WP M bc bs pc' ls (r.toList ++ rest) ρ' h' Q) : am_WP M (mc + bc) (ms + bs) pc ls st ρ h Q := by
  subst hp
  subst hst
  intro p l e R s m args below meth c Z D cI cS A n0 ad0 Cx ad H locs cells slots lc rl os ol hl hcs hss
  obtain ⟨w1, w2, w3, w4, w5, w6⟩ := id hok
  have hR : R.frames = M.2.2.2.2.1 := Cx.1.2.2.2.2.2.1
  have hL : R.locals = 36 * M.2.2.2.2.1 := Cx.1.2.2.2.2.2.2.1
  have hoka : ∀ v ∈ am_R b :: as, am_okV (ρ 0 0) v := fun v hv => os v (by
    rcases List.mem_cons.mp hv with rfl | z
    · exact List.mem_append_right _ List.mem_cons_self
    · exact List.mem_append_left _ (List.mem_reverse.mpr z))
  have he := am_ws_get (cI := cI) (cS := cS) (ad := ad) (h := h) hb.1 hb.2.1
  rw [am_E_obj hb.2.2 (am_cls hc).2.2.2.2] at he
  have hM := ct l D cI cS ad H.size rl.1 hoka
  have cb := callB_of (R := R) (s := s) (args := args) (own := M.1.cls) (index := idx) (y := M'.1) (bytes := M'.2.1) (maxL := M'.2.2.1) (ret := M'.2.2.2.1) (ws := am_W M') (ws' := am_G) (rm := { frames := M'.2.2.2.2.1, cells := mc, slots := ms, locals := 36 * M'.2.2.2.2.1 }) (mc := mc) (ms := ms) n (am_hts Cx.1.2.1) (am_W_good M' hok) rfl rfl rfl (Cx.1.2.1 _ w2) (Cx.1.2.1 _ lk) ⟨w3.1, w3.2, w4⟩ ⟨by rw [hR]; exact hlev, by rw [hL]; show 8 + (M'.2.2.1 + 11) + 36 * M'.2.2.2.2.1 ≤ _; omega⟩
  have hr := va_runV (As := as.map (am_c ad)) (rest := rest.map (am_c ad)) (b := ad b) (g := F0 m pc lc ((as.reverse ++ am_R b :: rest).map (am_c ad))) (e := e) (below := below) (meth := meth) (locs := locs) (cells := cells) (slots := slots) (Ts := am_G) ⟨Cx.1.1.1, Cx.1.1.2.1, Cx.1.1.2.2.1, Cx.1.1.2.2.2, am_hts Cx.1.2.1⟩ hM ⟨cb, Cx.1.2.1 _ wi, Cx.1.2.1 _ ws⟩
    ⟨am_blind, va_recv Cx.1.2.2.2.1 rl.2.2.2.1 hc he, fun U hU hW => ⟨rfl, by rw [hU], by rw [hU]; exact rl.2.2.2.1, va_K.moved hW.alike Cx.1.2.2.2.1, rl.2.2.2.2.1.weaken (fun _ _ _ _ => trivial), am_X.warm hW Cx.1.2.2.2.2.2.2.2.2.2⟩⟩ rfl (by simpa using hn) hl.1 (by simp [List.map_reverse, am_c_R]) (lv_room (hrest ad)) hd ⟨by omega, by omega⟩
  exact am_back Cx rl (fun v hv => os v (List.mem_append_right _ (List.mem_cons_of_mem _ hv))) ol hl hcs hss hr kk
theorem am_callW0 {as : List am_V} {b : Int} {ci N : Nat} {C : String} {T : u_T} (hst : st = as.reverse ++ am_R b :: rest) (hd : decode M.2.1 pc = .ok (.invokevirtual idx, 3)) (hp : pc + 3 = pc') (hok : am_ok M' n) (lk : am_T (.methodLink M.1.cls idx M'.1)) (wi : am_T (.instanceMethod M'.1)) (ws : am_T (.selects C M'.1 M'.1)) (hc : vwCl[ci]? = some (C, T, N)) (hlev : M'.2.2.2.2.1 + 1 ≤ M.2.2.2.2.1) (hn : as.length = n) (hrest : ∀ ad, ((rest.map (am_c ad)).map fun v => v.category).sum ≤ 8) (hb : am_in ρ b ci)
    (ct : am_CT M' 0 0 (am_R b :: as) ρ h Q') (kk : ∀ r ρ' h', Q' r ρ' h' → am_rng ρ' h' → ρ 0 0 ≤ ρ' 0 0 → am_WP M bc bs pc' ls (r.toList ++ rest) ρ' h' Q) : am_WP M bc bs pc ls st ρ h Q := by
  have := am_callW (bc := bc) (bs := bs) hd hp hok lk wi ws hc hlev hb hn hrest hst ct kk
  rwa [Nat.zero_add, Nat.zero_add] at this
end AMR
/-! the model: now, after, from, longest -/
theorem t8_now {ρ h : am_H} {w : Int} (hM : am_LM ρ) (hR : md_R h) : am_CT mX8_now 0 0 [am_R 38, am_I w] ρ h (fun r ρ' h' => ρ' = ρ ∧ md_fr h h' ∧ ∃ v, r = some (am_I v) ∧ o_g3 (0 ≤ w ∧ w ≤ 2) (h 38 1) (o_now (md_nx h) (md_row h) w) v) := by
  have hn58 := hM.1
  have e1 := am_lm hM 38 16 48 (by decide)
  have l1 := am_lm hM 48 (-1) 7776 (by decide)
  have e2 := am_lm hM 38 17 49 (by decide)
  have l2 := am_lm hM 49 (-1) 7776 (by decide)
  refine am_ct (ls := [some (am_R 38), some (am_I w), none]) ok_X8_now rfl (fun _ => Nat.le_of_ble_eq_true rfl) (fun _ => rfl) (by intro v hv; simpa using hv) ?_
  refine am_iload_n (pc' := 1) dX8_now_0 rfl rfl rfl ?_
  refine am_i2l (pc' := 2) dX8_now_1 rfl ?_
  refine am_lconst0 (pc' := 3) dX8_now_2 rfl ?_
  refine am_ldc2 (pc' := 6) (x := 2) dX8_now_3 rfl kl_X8_97 rfl rfl ?_
  refine am_callSp (pc' := 9) (as := [_, _, _])  rfl dX8_now_6 rfl ok_X8_in ml_X8_80 sm_X8_in (Nat.le_of_ble_eq_true rfl) rfl (Nat.le_of_ble_eq_true rfl) (t8_in) ?_
  refine am_if_ne (pc' := 12) (tgt := 15) dX8_now_9 rfl rfl (fun c_9 => ?_) (fun c_9 => ?_)
  · simp only [am_z0, am_z1, ne_eq] at c_9
    refine am_aload_n (pc' := 16) dX8_now_15 rfl rfl rfl ?_
    refine am_getIk (ki := 1) (pc' := 19) (k := 1) (ci := 7) rfl dX8_now_16 rfl fl_X8_77 (by first | assumption | exact ⟨by omega, by omega, rfl⟩) rfl ?_
    refine am_if_ne (pc' := 22) (tgt := 25) dX8_now_19 rfl rfl (fun c_19 => ?_) (fun c_19 => ?_)
    · obtain ⟨hA, hnm, hkd⟩ := md_RA hR (show h 38 1 ≠ 0 by omega)
      have hrow : 0 ≤ md_row h ∧ md_row h < md_N h := md_row_in hA hnm
      refine am_aload_n (pc' := 26) dX8_now_25 rfl rfl rfl ?_
      refine am_callV0 (pc' := 29) (as := []) (ci := 7)  rfl dX8_now_26 rfl ok_X8_rowNow ml_X8_191 im_X8_rowNow se_X8_rowNow rfl (Nat.le_of_ble_eq_true rfl) rfl (Nat.le_of_ble_eq_true rfl) (by first | assumption | exact ⟨by omega, by omega, rfl⟩) (t8_rowNow hM hA hnm) (fun r_26 ρ_26 h_26 q_26 g_26 e_26 => ?_)
      obtain ⟨rfl, rfl, q1⟩ := q_26
      have g : ∀ k, h_26 38 k = h 38 k := fun k => q1 38 k (by simp <;> omega)
      change am_WP _ _ _ _ _ [am_I (md_row h)] _ _ _
      refine am_istore_n (pc' := 30) (ls' := [_, _, _]) dX8_now_29 rfl rfl (Nat.le_of_ble_eq_true rfl) rfl rfl ?_
      refine am_aload_n (pc' := 31) dX8_now_30 rfl rfl rfl ?_
      refine am_callV0 (pc' := 34) (as := []) (ci := 7)  rfl dX8_now_31 rfl ok_X8_tables ml_X8_194 im_X8_tables se_X8_tables rfl (Nat.le_of_ble_eq_true rfl) rfl (Nat.le_of_ble_eq_true rfl) (by first | assumption | exact ⟨by omega, by omega, rfl⟩) (t8_tables hM (by unfold md_A; rw [g, g]; exact hA)) (fun r_31 ρ_31 h_31 q_31 g_31 e_31 => ?_)
      obtain ⟨hQ, hfr, hbr⟩ := md_go hM hR (show h 38 1 ≠ 0 by omega) q1 q_31
      obtain ⟨rfl, rfl, _⟩ := q_31
      have hN := md_QN hQ
      have hT := hQ.2.2.2.2.2.2.1 _ hrow.1 hrow.2
      refine am_iload_n (pc' := 35) dX8_now_34 rfl rfl rfl ?_
      refine am_if_ne (pc' := 38) (tgt := 47) dX8_now_35 rfl rfl (fun c_35 => ?_) (fun c_35 => ?_)
      · refine am_iload_n (pc' := 48) dX8_now_47 rfl rfl rfl ?_
        refine am_iconst (pc' := 49) dX8_now_48 rfl rfl ?_
        refine am_icmp_ne (pc' := 52) (tgt := 60) dX8_now_49 rfl rfl (fun c_49 => ?_) (fun c_49 => ?_)
        · refine am_aload_n (pc' := 61) dX8_now_60 rfl rfl rfl ?_
          refine am_getRk (ki := 17) (pc' := 64) (k := 17) (ci := 7) rfl dX8_now_61 rfl fl_X8_40 (by first | assumption | exact ⟨by omega, by omega, rfl⟩) rfl (by assumption) (by omega) ?_
          refine am_iload_n (pc' := 65) dX8_now_64 rfl rfl rfl ?_
          refine am_iaload (pc' := 66) dX8_now_65 rfl (by first | assumption | exact ⟨by omega, by omega, rfl⟩) (by omega) (by omega) ?_
          refine am_reti dX8_now_66 rfl ?_
          first | exact ⟨rfl, hfr, _, rfl, Or.inr (Or.inr ⟨by omega, by omega, Or.inl ⟨by omega, hT.1⟩⟩)⟩ | exact ⟨rfl, hfr, _, rfl, Or.inr (Or.inr ⟨by omega, by omega, Or.inr (Or.inl ⟨by omega, y2⟩)⟩)⟩ | exact ⟨rfl, hfr, _, rfl, Or.inr (Or.inr ⟨by omega, by omega, Or.inr (Or.inr ⟨by omega, by omega, hT.2⟩)⟩)⟩ | fail
        · refine am_aload_n (pc' := 53) dX8_now_52 rfl rfl rfl ?_
          refine am_iload_n (pc' := 54) dX8_now_53 rfl rfl rfl ?_
          refine am_callV0 (pc' := 57) (as := [_]) (ci := 7)  rfl dX8_now_54 rfl ok_X8_roundOf ml_X8_197 im_X8_roundOf se_X8_roundOf rfl (Nat.le_of_ble_eq_true rfl) rfl (Nat.le_of_ble_eq_true rfl) (by first | assumption | exact ⟨by omega, by omega, rfl⟩) (t8_roundOf hQ hrow) (fun r_54 ρ_54 h_54 q_54 g_54 e_54 => ?_)
          obtain ⟨rfl, rfl, v, rfl, y1, y2⟩ := q_54
          refine am_goto (pc' := 66) dX8_now_57 rfl ?_
          refine am_reti dX8_now_66 rfl ?_
          first | exact ⟨rfl, hfr, _, rfl, Or.inr (Or.inr ⟨by omega, by omega, Or.inl ⟨by omega, hT.1⟩⟩)⟩ | exact ⟨rfl, hfr, _, rfl, Or.inr (Or.inr ⟨by omega, by omega, Or.inr (Or.inl ⟨by omega, y2⟩)⟩)⟩ | exact ⟨rfl, hfr, _, rfl, Or.inr (Or.inr ⟨by omega, by omega, Or.inr (Or.inr ⟨by omega, by omega, hT.2⟩)⟩)⟩ | fail
      · refine am_aload_n (pc' := 39) dX8_now_38 rfl rfl rfl ?_
        refine am_getRk (ki := 16) (pc' := 42) (k := 16) (ci := 7) rfl dX8_now_39 rfl fl_X8_37 (by first | assumption | exact ⟨by omega, by omega, rfl⟩) rfl (by assumption) (by omega) ?_
        refine am_iload_n (pc' := 43) dX8_now_42 rfl rfl rfl ?_
        refine am_iaload (pc' := 44) dX8_now_43 rfl (by first | assumption | exact ⟨by omega, by omega, rfl⟩) (by omega) (by omega) ?_
        refine am_goto (pc' := 66) dX8_now_44 rfl ?_
        refine am_reti dX8_now_66 rfl ?_
        first | exact ⟨rfl, hfr, _, rfl, Or.inr (Or.inr ⟨by omega, by omega, Or.inl ⟨by omega, hT.1⟩⟩)⟩ | exact ⟨rfl, hfr, _, rfl, Or.inr (Or.inr ⟨by omega, by omega, Or.inr (Or.inl ⟨by omega, y2⟩)⟩)⟩ | exact ⟨rfl, hfr, _, rfl, Or.inr (Or.inr ⟨by omega, by omega, Or.inr (Or.inr ⟨by omega, by omega, hT.2⟩)⟩)⟩ | fail
    · refine am_bipush (pc' := 24) dX8_now_22 rfl rfl (by decide) ?_
      refine am_reti dX8_now_24 rfl ?_
      exact ⟨rfl, md_fr_r, _, rfl, Or.inr (Or.inl ⟨by omega, by omega, rfl⟩)⟩
  · simp only [am_z0, am_z1, ne_eq] at c_9
    refine am_bipush (pc' := 14) dX8_now_12 rfl rfl (by decide) ?_
    refine am_reti dX8_now_14 rfl ?_
    exact ⟨rfl, md_fr_r, _, rfl, Or.inl ⟨by omega, rfl⟩⟩
theorem gr_per_ex {nx : Int → Int} {c : Int} (h : onc nx c) : ∃ L, gr_per nx c L := by
  obtain ⟨t, t0, e⟩ := h
  have key : ∀ n t : Nat, t < n → 0 < t → gi nx t c = c → ∃ L, gr_per nx c L := by
    intro n
    induction n with
    | zero => intro t a; omega
    | succ n ih =>
      intro t a b e
      by_cases z : ∃ s : Nat, 0 < s ∧ s < t ∧ gi nx s c = c
      · obtain ⟨s, s0, s1, s2⟩ := z
        exact ih s (by omega) s0 s2
      · exact ⟨t, by omega, by rw [Int.toNat_natCast]; exact e, fun s s0 s1 s2 => z ⟨s, s0, by omega, s2⟩⟩
  exact key (t + 1) t (by omega) t0 e
theorem gr_rd_tl {nx : Int → Int} {c t : Int} (h : gr_tl nx c t) : ∃ M, gr_rd nx c M := by
  obtain ⟨M, hM⟩ := gr_per_ex h.2.1
  exact ⟨M, _, ⟨h.2.1, _, rfl⟩, hM⟩
theorem t8_after_77 {ρ h0 h : am_H} {N c p : Int} {nx : Int → Int} {v2 v3 v4 v5 v6 : Option am_V} {Q : am_Q} (hQ : md_Q ρ h nx N) (hc : 0 ≤ c ∧ c < N) (hp : 0 ≤ p ∧ p < h 38 1) (hf : md_fr h0 h) (hq : ∀ h', md_fr h0 h' → Q (some (am_I (dg (h 38 1) (h 38 2) c p))) ρ h') : am_WP mX8_after 0 0 77 [some (am_R 38), some (am_I p), v2, v3, v4, v5, v6] [am_I c, am_R 38] ρ h Q := by
  have hN := md_QN hQ
  obtain ⟨hM, hA, eN, h00, hin, _⟩ := id hQ
  have hn58 := hM.1
  have a1 := hA.1
  have e1 := am_lm hM 38 11 43 (by decide)
  have l1 := am_lm hM 43 (-1) 5 (by decide)
  refine am_callV0 (pc' := 80) (as := [_]) (ci := 7)  rfl dX8_after_77 rfl ok_X8_takesRow ml_X8_173 im_X8_takesRow se_X8_takesRow rfl (Nat.le_of_ble_eq_true rfl) rfl (Nat.le_of_ble_eq_true rfl) (by first | assumption | exact ⟨by omega, by omega, rfl⟩) (t8_takesRow hM hA (by omega)) (fun r_77 ρ_77 h_77 q_77 g_77 e_77 => ?_)
  obtain ⟨rfl, rfl, q1, q2⟩ := q_77
  refine am_aload_n (pc' := 81) dX8_after_80 rfl rfl rfl ?_
  refine am_getRk (ki := 11) (pc' := 84) (k := 11) (ci := 7) rfl dX8_after_81 rfl fl_X8_22 (by first | assumption | exact ⟨by omega, by omega, rfl⟩) rfl (by assumption) (by omega) ?_
  refine am_iload_n (pc' := 85) dX8_after_84 rfl rfl rfl ?_
  refine am_iaload (pc' := 86) dX8_after_85 rfl (by first | assumption | exact ⟨by omega, by omega, rfl⟩) (by omega) (by omega) ?_
  refine am_reti dX8_after_86 rfl ?_
  rw [q2 p hp.1 hp.2]; exact hq _ (md_fr_t hf (md_fr_43 (am_fr_sub q1 (by intro x hx; simp at hx ⊢; omega))))
theorem t8_after {ρ h : am_H} {p t : Int} (hM : am_LM ρ) (hR : md_R h) : am_CT mX8_after 0 0 [am_R 38, am_I p, am_L t] ρ h (fun r ρ' h' => ρ' = ρ ∧ md_fr h h' ∧ ∃ v, r = some (am_I v) ∧ o_g2 (0 ≤ p ∧ p < h 38 1) (0 ≤ t ∧ t ≤ 1000000000000000000) (o_after (md_nx h) (h 38 1) (h 38 2) (md_row h) p t) v) := by
  have hn58 := hM.1
  have hP5 := (md_P5 hR).1
  have e1 := am_lm hM 38 16 48 (by decide)
  have l1 := am_lm hM 48 (-1) 7776 (by decide)
  refine am_ct (ls := [some (am_R 38), some (am_I p), some (am_L t), none, none, none, none]) ok_X8_after rfl (fun _ => Nat.le_of_ble_eq_true rfl) (fun _ => rfl) (by intro v hv; simpa using hv) ?_
  refine am_aload_n (pc' := 1) dX8_after_0 rfl rfl rfl ?_
  refine am_iload_n (pc' := 2) dX8_after_1 rfl rfl rfl ?_
  refine am_callVp (pc' := 5) (as := [_]) (ci := 7)  rfl dX8_after_2 rfl ok_X8_noPlace ml_X8_149 im_X8_noPlace se_X8_noPlace rfl (Nat.le_of_ble_eq_true rfl) rfl (Nat.le_of_ble_eq_true rfl) (by first | assumption | exact ⟨by omega, by omega, rfl⟩) (t8_noPlace hM hP5) ?_
  refine am_if_eq (pc' := 8) (tgt := 10) dX8_after_5 rfl rfl (fun c_5 => ?_) (fun c_5 => ?_)
  · simp only [am_z0, am_z1, ne_eq] at c_5
    refine am_lload_n (pc' := 11) dX8_after_10 rfl rfl rfl ?_
    refine am_lconst0 (pc' := 12) dX8_after_11 rfl ?_
    refine am_ldc2 (pc' := 15) (x := 1000000000000000000) dX8_after_12 rfl kl_X8_189 rfl rfl ?_
    refine am_callSp (pc' := 18) (as := [_, _, _])  rfl dX8_after_15 rfl ok_X8_in ml_X8_80 sm_X8_in (Nat.le_of_ble_eq_true rfl) rfl (Nat.le_of_ble_eq_true rfl) (t8_in) ?_
    refine am_if_ne (pc' := 21) (tgt := 24) dX8_after_18 rfl rfl (fun c_18 => ?_) (fun c_18 => ?_)
    · simp only [am_z0, am_z1, ne_eq] at c_18
      have hpp : 0 ≤ p ∧ p < h 38 1 := by omega
      have htt : 0 ≤ t ∧ t ≤ 1000000000000000000 := by omega
      have hP0 : h 38 1 ≠ 0 := by omega
      obtain ⟨hA, hnm, hkd⟩ := md_RA hR hP0
      have hrow : 0 ≤ md_row h ∧ md_row h < md_N h := md_row_in hA hnm
      refine am_aload_n (pc' := 25) dX8_after_24 rfl rfl rfl ?_
      refine am_callV0 (pc' := 28) (as := []) (ci := 7)  rfl dX8_after_25 rfl ok_X8_rowNow ml_X8_191 im_X8_rowNow se_X8_rowNow rfl (Nat.le_of_ble_eq_true rfl) rfl (Nat.le_of_ble_eq_true rfl) (by first | assumption | exact ⟨by omega, by omega, rfl⟩) (t8_rowNow hM hA hnm) (fun r_25 ρ_25 h_25 q_25 g_25 e_25 => ?_)
      obtain ⟨rfl, rfl, q1⟩ := q_25
      have g : ∀ k, h_25 38 k = h 38 k := fun k => q1 38 k (by simp <;> omega)
      change am_WP _ _ _ _ _ [am_I (md_row h)] _ _ _
      refine am_istore (pc' := 30) (ls' := [_, _, _, _, _, _, _]) dX8_after_28 rfl (Nat.le_of_ble_eq_true rfl) rfl rfl ?_
      refine am_aload_n (pc' := 31) dX8_after_30 rfl rfl rfl ?_
      refine am_callV0 (pc' := 34) (as := []) (ci := 7)  rfl dX8_after_31 rfl ok_X8_tables ml_X8_194 im_X8_tables se_X8_tables rfl (Nat.le_of_ble_eq_true rfl) rfl (Nat.le_of_ble_eq_true rfl) (by first | assumption | exact ⟨by omega, by omega, rfl⟩) (t8_tables hM (by unfold md_A; rw [g, g]; exact hA)) (fun r_31 ρ_31 h_31 q_31 g_31 e_31 => ?_)
      obtain ⟨hQ, hfr, hbr⟩ := md_go hM hR hP0 q1 q_31
      obtain ⟨rfl, rfl, _⟩ := q_31
      have hN := md_QN hQ
      have hin := hQ.2.2.2.2.1
      have hT := (hQ.2.2.2.2.2.2.1 _ hrow.1 hrow.2).1
      have hTl := gr_tl_lt hin hrow.1 hrow.2 hT
      have hT0 := hT.1
      have f1 : h_31 38 1 = h 38 1 := hfr.2 1 (by omega)
      have f2 : h_31 38 2 = h 38 2 := hfr.2 2 (by omega)
      have hfin : ∀ M, gr_rd (md_nx h) (md_row h) M → ∀ x, x = bh_left t (h_31 48 (md_row h)) M → ∀ h', md_fr h h' → (ρ_31 = ρ_31 ∧ md_fr h h' ∧ ∃ v, some (am_I (dg (h_31 38 1) (h_31 38 2) (gi (md_nx h) x.toNat (md_row h)) p)) = some (am_I v) ∧ o_g2 (0 ≤ p ∧ p < h 38 1) (0 ≤ t ∧ t ≤ 1000000000000000000) (o_after (md_nx h) (h 38 1) (h 38 2) (md_row h) p t) v) := fun M hM9 x hx h' hh => ⟨rfl, hh, _, rfl, Or.inr (Or.inr ⟨hpp, htt, _, M, hT, hM9, by rw [f1, f2, hx]⟩)⟩
      refine am_aload_n (pc' := 35) dX8_after_34 rfl rfl rfl ?_
      refine am_getRk (ki := 16) (pc' := 38) (k := 16) (ci := 7) rfl dX8_after_35 rfl fl_X8_37 (by first | assumption | exact ⟨by omega, by omega, rfl⟩) rfl (by assumption) (by omega) ?_
      refine am_iload (pc' := 40) dX8_after_38 rfl rfl ?_
      refine am_iaload (pc' := 41) dX8_after_40 rfl (by first | assumption | exact ⟨by omega, by omega, rfl⟩) (by omega) (by omega) ?_
      refine am_i2l (pc' := 42) dX8_after_41 rfl ?_
      refine am_lstore (pc' := 44) (ls' := [_, _, _, _, _, _, _]) dX8_after_42 rfl (Nat.le_of_ble_eq_true rfl) rfl rfl ?_
      refine am_aload_n (pc' := 45) dX8_after_44 rfl rfl rfl ?_
      refine am_aload_n (pc' := 46) dX8_after_45 rfl rfl rfl ?_
      refine am_iload (pc' := 48) dX8_after_46 rfl rfl ?_
      refine am_lload_n (pc' := 49) dX8_after_48 rfl rfl rfl ?_
      refine am_lload (pc' := 51) dX8_after_49 rfl rfl ?_
      refine am_lcmp_gt (pc1 := 52) (pc' := 55) (tgt := 59) dX8_after_51 rfl dX8_after_52 rfl rfl (fun c_51 => ?_) (fun c_51 => ?_)
      · refine am_lload (pc' := 61) dX8_after_59 rfl rfl ?_
        refine am_lload_n (pc' := 62) dX8_after_61 rfl rfl rfl ?_
        refine am_lload (pc' := 64) dX8_after_62 rfl rfl ?_
        refine am_lsub (pc' := 65) dX8_after_64 rfl ⟨by omega, by omega⟩ ?_
        refine am_aload_n (pc' := 66) dX8_after_65 rfl rfl rfl ?_
        refine am_iload (pc' := 68) dX8_after_66 rfl rfl ?_
        refine am_callW0 (pc' := 71) (as := [_]) (ci := 7)  rfl dX8_after_68 rfl ok_X8_roundOf ml_X8_197 im_X8_roundOf se_X8_roundOf rfl (Nat.le_of_ble_eq_true rfl) rfl (fun _ => (Nat.le_of_ble_eq_true rfl)) (by first | assumption | exact ⟨by omega, by omega, rfl⟩) (t8_roundOf hQ hrow) (fun r_68 ρ_68 h_68 q_68 g_68 e_68 => ?_)
        obtain ⟨rfl, rfl, M, rfl, y1, y2⟩ := q_68
        have m0 := Int.emod_nonneg (t - h_68 48 (md_row h)) (show M ≠ 0 by omega)
        have m1 := Int.emod_lt_of_pos (t - h_68 48 (md_row h)) (show 0 < M by omega)
        refine am_i2l (pc' := 72) dX8_after_71 rfl ?_
        refine am_lrem (pc' := 73) dX8_after_72 rfl (by omega) (by omega) ?_
        refine am_ladd (pc' := 74) dX8_after_73 rfl ⟨by omega, by omega⟩ ?_
        refine am_callVp (pc' := 77) (as := [_, _]) (ci := 7)  rfl dX8_after_74 rfl ok_X8_behind ml_X8_182 im_X8_behind se_X8_behind rfl (Nat.le_of_ble_eq_true rfl) rfl (Nat.le_of_ble_eq_true rfl) (by first | assumption | exact ⟨by omega, by omega, rfl⟩) (t8_behind hQ hrow (by omega)) ?_
        first | exact t8_after_77 (h0 := h) hQ (gi_in hin hrow.1 hrow.2 _) (by omega) hfr (hfin M y2 _ (by unfold bh_left; rw [if_neg (by omega)])) | exact Exists.elim (gr_rd_tl hT) (fun M hM9 => t8_after_77 (h0 := h) hQ (gi_in hin hrow.1 hrow.2 _) (by omega) hfr (hfin M hM9 _ (by unfold bh_left; rw [if_pos (by omega)]))) | fail
      · refine am_lload_n (pc' := 56) dX8_after_55 rfl rfl rfl ?_
        refine am_goto (pc' := 74) dX8_after_56 rfl ?_
        refine am_callVp (pc' := 77) (as := [_, _]) (ci := 7)  rfl dX8_after_74 rfl ok_X8_behind ml_X8_182 im_X8_behind se_X8_behind rfl (Nat.le_of_ble_eq_true rfl) rfl (Nat.le_of_ble_eq_true rfl) (by first | assumption | exact ⟨by omega, by omega, rfl⟩) (t8_behind hQ hrow (by omega)) ?_
        first | exact t8_after_77 (h0 := h) hQ (gi_in hin hrow.1 hrow.2 _) (by omega) hfr (hfin M y2 _ (by unfold bh_left; rw [if_neg (by omega)])) | exact Exists.elim (gr_rd_tl hT) (fun M hM9 => t8_after_77 (h0 := h) hQ (gi_in hin hrow.1 hrow.2 _) (by omega) hfr (hfin M hM9 _ (by unfold bh_left; rw [if_pos (by omega)]))) | fail
    · simp only [am_z0, am_z1, ne_eq] at c_18
      refine am_bipush (pc' := 23) dX8_after_21 rfl rfl (by decide) ?_
      refine am_reti dX8_after_23 rfl ?_
      exact ⟨rfl, md_fr_r, _, rfl, Or.inr (Or.inl ⟨by omega, by omega, rfl⟩)⟩
  · simp only [am_z0, am_z1, ne_eq] at c_5
    refine am_iconst (pc' := 9) dX8_after_8 rfl rfl ?_
    refine am_reti dX8_after_9 rfl ?_
    exact ⟨rfl, md_fr_r, _, rfl, Or.inl ⟨by omega, rfl⟩⟩
