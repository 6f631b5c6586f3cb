/-! AllRows: room, and all worked out -/
def am_DS (ρ : am_H) (S K : Int) : Prop := am_in ρ 29 5 ∧ (S = 30 ∨ 58 ≤ S) ∧ S + 2 < ρ 0 0 ∧ (ρ 29 0 = S ∧ ρ 29 1 = S + 1 ∧ ρ 29 2 = S + 2) ∧ (ρ S (-1) = K ∧ ρ (S + 1) (-1) = K ∧ ρ (S + 2) (-1) = K) ∧ 0 ≤ K ∧ K ≤ 7776
def am_LY (ρ : am_H) (A L S K : Int) : Prop := am_LC ρ ∧ am_LM ρ ∧ am_DA ρ A L ∧ am_DS ρ S K ∧ (A + 4 < S ∨ S + 2 < A)
/-- a new row of ints that a field of cell o takes -/
theorem am_grow {ρ h : am_H} {N o k : Int} (hn : 58 ≤ ρ 0 0) (ho : 0 < o ∧ o < 58) (hk : 0 ≤ k) : ∃ ρ1 h1, ρ1 = am_u (am_newR ρ N) o k (ρ 0 0) ∧ h1 = am_newH ρ h ∧ ρ1 0 0 = ρ 0 0 + 1 ∧ (∀ x j, 0 < x → x < ρ 0 0 → ¬ (x = o ∧ j = k) → ρ1 x j = ρ x j) ∧ ρ1 o k = ρ 0 0 ∧ ρ1 (ρ 0 0) (-1) = N ∧ ∀ x j, x < ρ 0 0 → h1 x j = h x j := by
  refine ⟨_, _, rfl, rfl, ?_, fun x j z0 z1 z2 => ?_, am_u_s _ _ _ _, ?_, fun x j z => ?_⟩
  · rw [am_u_n (by omega), am_newR_n N (by omega)]
  · rw [am_u_n z2, am_newR_o z0 (by omega)]
  · rw [am_u_n (by omega)]; unfold am_newR; rw [if_pos rfl, if_pos rfl]
  · unfold am_newH; rw [if_neg (by omega)]
theorem t_makeRoom0 {ρ h : am_H} {A L : Int} (hn : 58 ≤ ρ 0 0) (hD : am_DA ρ A L) (hN : h 19 7 ≤ L) : am_CT mX0_makeRoom 0 0 [am_R 19] ρ h (fun v ρ' h' => v = none ∧ ρ' = ρ ∧ h' = h) := by
  obtain ⟨k0, k1, k2, k3, k4, k5, ⟨e1, e2, e3, e4, e5⟩, ⟨l1, l2, l3, l4, l5⟩, hA, hL0, hL7⟩ := am_DAx hD
  refine am_ct (ls := [some (am_R 19)]) ok_X0_makeRoom rfl (fun _ => Nat.le_of_ble_eq_true rfl) (fun _ => rfl) (by intro v hv; simpa using hv) ?_
  refine am_aload_n (pc' := 1) dX0_makeRoom_0 rfl rfl rfl ?_
  refine am_getRk (ki := 1) (pc' := 4) (k := 1) (ci := 0) rfl dX0_makeRoom_1 rfl fl_X0_18 (by first | assumption | exact ⟨by omega, by omega, rfl⟩) rfl (by assumption) (by omega) ?_
  refine am_alen (pc' := 5) dX0_makeRoom_4 rfl (by first | assumption | exact ⟨by omega, by omega, rfl⟩) (by assumption) ?_
  refine am_aload_n (pc' := 6) dX0_makeRoom_5 rfl rfl rfl ?_
  refine am_getIk (ki := 7) (pc' := 9) (k := 7) (ci := 0) rfl dX0_makeRoom_6 rfl fl_X0_38 (by first | assumption | exact ⟨by omega, by omega, rfl⟩) rfl ?_
  refine am_icmp_ge (pc' := 12) (tgt := 62) dX0_makeRoom_9 rfl rfl (fun c_9 => ?_) (fun c_9 => ?_)
  · refine am_retv dX0_makeRoom_62 rfl ?_
    exact ⟨rfl, rfl, rfl⟩
  · omega
theorem t_makeRoomG {ρ h : am_H} {A L N : Int} (hn : 58 ≤ ρ 0 0) (hD : am_DA ρ A L) (hN : L < N) (hN7 : N ≤ 7776) (eN : h 19 7 = N) : am_CT mX0_makeRoom 5 (0 + N.toNat + N.toNat + N.toNat + N.toNat + N.toNat) [am_R 19] ρ h (fun v ρ' h' => v = none ∧ (∀ x j, x < ρ 0 0 → h' x j = h x j) ∧ ρ' 0 0 = ρ 0 0 + 5 ∧ (∀ x j, 0 < x → x < ρ 0 0 → ¬ (x = 19 ∧ 1 ≤ j ∧ j ≤ 5) → ρ' x j = ρ x j) ∧ am_DA ρ' (ρ 0 0) N) := by
  obtain ⟨k0, k1, k2, k3, k4, k5, ⟨e1, e2, e3, e4, e5⟩, ⟨l1, l2, l3, l4, l5⟩, hA, hL0, hL7⟩ := am_DAx hD
  refine am_ct (ls := [some (am_R 19)]) ok_X0_makeRoom rfl (fun _ => Nat.le_of_ble_eq_true rfl) (fun _ => rfl) (by intro v hv; simpa using hv) ?_
  refine am_aload_n (pc' := 1) dX0_makeRoom_0 rfl rfl rfl ?_
  refine am_getRk (ki := 1) (pc' := 4) (k := 1) (ci := 0) rfl dX0_makeRoom_1 rfl fl_X0_18 (by first | assumption | exact ⟨by omega, by omega, rfl⟩) rfl (by assumption) (by omega) ?_
  refine am_alen (pc' := 5) dX0_makeRoom_4 rfl (by first | assumption | exact ⟨by omega, by omega, rfl⟩) (by assumption) ?_
  refine am_aload_n (pc' := 6) dX0_makeRoom_5 rfl rfl rfl ?_
  refine am_getIk (ki := 7) (pc' := 9) (k := 7) (ci := 0) rfl dX0_makeRoom_6 rfl fl_X0_38 (by first | assumption | exact ⟨by omega, by omega, rfl⟩) rfl ?_
  refine am_icmp_ge (pc' := 12) (tgt := 62) dX0_makeRoom_9 rfl rfl (fun c_9 => ?_) (fun c_9 => ?_)
  · exfalso; omega
  · refine am_aload_n (pc' := 13) dX0_makeRoom_12 rfl rfl rfl ?_
    refine am_aload_n (pc' := 14) dX0_makeRoom_13 rfl rfl rfl ?_
    refine am_getIk (ki := 7) (pc' := 17) (k := 7) (ci := 0) rfl dX0_makeRoom_14 rfl fl_X0_38 (by first | assumption | exact ⟨by omega, by omega, rfl⟩) rfl ?_
    rw [eN]
    refine am_newarr (pc' := 19)  dX0_makeRoom_17 rfl ac_int (by omega) (by omega) (am_K8 (by omega)) ?_
    have i0 : am_in (am_newR ρ N) 19 0 := ⟨by omega, by rw [am_newR_n N (by omega)]; omega, rfl⟩
    refine am_putRk (ki := 1) (pc' := 22) (k := 1) (ci := 0) rfl dX0_makeRoom_19 rfl fl_X0_18 (by first | assumption | exact ⟨by omega, by omega, rfl⟩) rfl (by omega) (fun _ _ _ e => by cases e; rfl) ?_
    obtain ⟨ρ1, h1, r1, w1, a1, a2, a3, a4, b1⟩ := am_grow (ρ := ρ) (h := h) (N := N) (o := 19) (k := 1) hn (by omega) (by omega)
    rw [← r1, ← w1]
    have j1 : am_in ρ1 19 0 := ⟨by omega, by omega, rfl⟩
    refine am_aload_n (pc' := 23) dX0_makeRoom_22 rfl rfl rfl ?_
    refine am_aload_n (pc' := 24) dX0_makeRoom_23 rfl rfl rfl ?_
    refine am_getIk (ki := 7) (pc' := 27) (k := 7) (ci := 0) rfl dX0_makeRoom_24 rfl fl_X0_38 (by first | assumption | exact ⟨by omega, by omega, rfl⟩) rfl ?_
    rw [b1 19 7 (by omega), eN]
    refine am_newarr (pc' := 29)  dX0_makeRoom_27 rfl ac_int (by omega) (by omega) (am_K8 (by omega)) ?_
    have i1 : am_in (am_newR ρ1 N) 19 0 := ⟨by omega, by rw [am_newR_n N (by omega)]; omega, rfl⟩
    refine am_putRk (ki := 2) (pc' := 32) (k := 2) (ci := 0) rfl dX0_makeRoom_29 rfl fl_X0_22 (by first | assumption | exact ⟨by omega, by omega, rfl⟩) rfl (by omega) (fun _ _ _ e => by cases e; rfl) ?_
    obtain ⟨ρ2, h2, r2, w2, c1, c2, c3, c4, d1⟩ := am_grow (ρ := ρ1) (h := h1) (N := N) (o := 19) (k := 2) (by omega) (by omega) (by omega)
    rw [← r2, ← w2]
    have j2 : am_in ρ2 19 0 := ⟨by omega, by omega, rfl⟩
    refine am_aload_n (pc' := 33) dX0_makeRoom_32 rfl rfl rfl ?_
    refine am_aload_n (pc' := 34) dX0_makeRoom_33 rfl rfl rfl ?_
    refine am_getIk (ki := 7) (pc' := 37) (k := 7) (ci := 0) rfl dX0_makeRoom_34 rfl fl_X0_38 (by first | assumption | exact ⟨by omega, by omega, rfl⟩) rfl ?_
    rw [d1 19 7 (by omega), b1 19 7 (by omega), eN]
    refine am_newarr (pc' := 39)  dX0_makeRoom_37 rfl ac_int (by omega) (by omega) (am_K8 (by omega)) ?_
    have i2 : am_in (am_newR ρ2 N) 19 0 := ⟨by omega, by rw [am_newR_n N (by omega)]; omega, rfl⟩
    refine am_putRk (ki := 3) (pc' := 42) (k := 3) (ci := 0) rfl dX0_makeRoom_39 rfl fl_X0_25 (by first | assumption | exact ⟨by omega, by omega, rfl⟩) rfl (by omega) (fun _ _ _ e => by cases e; rfl) ?_
    obtain ⟨ρ3, h3, r3, w3, f1, f2, f3, f4, g1⟩ := am_grow (ρ := ρ2) (h := h2) (N := N) (o := 19) (k := 3) (by omega) (by omega) (by omega)
    rw [← r3, ← w3]
    have j3 : am_in ρ3 19 0 := ⟨by omega, by omega, rfl⟩
    refine am_aload_n (pc' := 43) dX0_makeRoom_42 rfl rfl rfl ?_
    refine am_aload_n (pc' := 44) dX0_makeRoom_43 rfl rfl rfl ?_
    refine am_getIk (ki := 7) (pc' := 47) (k := 7) (ci := 0) rfl dX0_makeRoom_44 rfl fl_X0_38 (by first | assumption | exact ⟨by omega, by omega, rfl⟩) rfl ?_
    rw [g1 19 7 (by omega), d1 19 7 (by omega), b1 19 7 (by omega), eN]
    refine am_newarr (pc' := 49)  dX0_makeRoom_47 rfl ac_int (by omega) (by omega) (am_K8 (by omega)) ?_
    have i3 : am_in (am_newR ρ3 N) 19 0 := ⟨by omega, by rw [am_newR_n N (by omega)]; omega, rfl⟩
    refine am_putRk (ki := 4) (pc' := 52) (k := 4) (ci := 0) rfl dX0_makeRoom_49 rfl fl_X0_28 (by first | assumption | exact ⟨by omega, by omega, rfl⟩) rfl (by omega) (fun _ _ _ e => by cases e; rfl) ?_
    obtain ⟨ρ4, h4, r4, w4, m1, m2, m3, m4, n1⟩ := am_grow (ρ := ρ3) (h := h3) (N := N) (o := 19) (k := 4) (by omega) (by omega) (by omega)
    rw [← r4, ← w4]
    have j4 : am_in ρ4 19 0 := ⟨by omega, by omega, rfl⟩
    refine am_aload_n (pc' := 53) dX0_makeRoom_52 rfl rfl rfl ?_
    refine am_aload_n (pc' := 54) dX0_makeRoom_53 rfl rfl rfl ?_
    refine am_getIk (ki := 7) (pc' := 57) (k := 7) (ci := 0) rfl dX0_makeRoom_54 rfl fl_X0_38 (by first | assumption | exact ⟨by omega, by omega, rfl⟩) rfl ?_
    rw [n1 19 7 (by omega), g1 19 7 (by omega), d1 19 7 (by omega), b1 19 7 (by omega), eN]
    refine am_newarr (pc' := 59)  dX0_makeRoom_57 rfl ac_int (by omega) (by omega) (am_K8 (by omega)) ?_
    have i4 : am_in (am_newR ρ4 N) 19 0 := ⟨by omega, by rw [am_newR_n N (by omega)]; omega, rfl⟩
    refine am_putRk (ki := 5) (pc' := 62) (k := 5) (ci := 0) rfl dX0_makeRoom_59 rfl fl_X0_31 (by first | assumption | exact ⟨by omega, by omega, rfl⟩) rfl (by omega) (fun _ _ _ e => by cases e; rfl) ?_
    obtain ⟨ρ5, h5, r5, w5, s1, s2, s3, s4, t1⟩ := am_grow (ρ := ρ4) (h := h4) (N := N) (o := 19) (k := 5) (by omega) (by omega) (by omega)
    rw [← r5, ← w5]
    refine am_retv dX0_makeRoom_62 rfl ?_
    refine ⟨rfl, fun x j z => ?_, by omega, fun x j z0 z1 z2 => ?_, ⟨⟨by omega, by omega, rfl⟩, Or.inr hn, by omega, ⟨?_, ?_, ?_, ?_, ?_⟩, ⟨?_, ?_, ?_, ?_, ?_⟩, by omega, hN7⟩⟩
    · rw [t1 x j (by omega), n1 x j (by omega), g1 x j (by omega), d1 x j (by omega), b1 x j z]
    · rw [s2 x j z0 (by omega) (by omega), m2 x j z0 (by omega) (by omega), f2 x j z0 (by omega) (by omega), c2 x j z0 (by omega) (by omega), a2 x j z0 (by omega) (by omega)]
    · rw [s2 19 1 (by omega) (by omega) (by omega), m2 19 1 (by omega) (by omega) (by omega), f2 19 1 (by omega) (by omega) (by omega), c2 19 1 (by omega) (by omega) (by omega), a3]
    · rw [s2 19 2 (by omega) (by omega) (by omega), m2 19 2 (by omega) (by omega) (by omega), f2 19 2 (by omega) (by omega) (by omega), c3, a1]
    · rw [s2 19 3 (by omega) (by omega) (by omega), m2 19 3 (by omega) (by omega) (by omega), f3]; omega
    · rw [s2 19 4 (by omega) (by omega) (by omega), m3]; omega
    · rw [s3]; omega
    · rw [s2 _ _ (by omega) (by omega) (by omega), m2 _ _ (by omega) (by omega) (by omega), f2 _ _ (by omega) (by omega) (by omega), c2 _ _ (by omega) (by omega) (by omega), a4]
    · rw [s2 _ _ (by omega) (by omega) (by omega), m2 _ _ (by omega) (by omega) (by omega), f2 _ _ (by omega) (by omega) (by omega), ← a1, c4]
    · rw [s2 _ _ (by omega) (by omega) (by omega), m2 _ _ (by omega) (by omega) (by omega), show ρ 0 0 + 2 = ρ2 0 0 by omega, f4]
    · rw [s2 _ _ (by omega) (by omega) (by omega), show ρ 0 0 + 3 = ρ3 0 0 by omega, m4]
    · rw [show ρ 0 0 + 4 = ρ4 0 0 by omega, s4]
