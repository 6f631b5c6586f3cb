/-! Ring, the writes -/
theorem am_fr_refl {l : List Int} {h : am_H} : am_fr l h h := fun _ _ _ => rfl
theorem am_fr_trans {l : List Int} {h h1 h2 : am_H} (a : am_fr l h h1) (b : am_fr l h1 h2) : am_fr l h h2 := fun x k hx => (b x k hx).trans (a x k hx)
theorem am_fr_sub {l l' : List Int} {h h1 : am_H} (a : am_fr l h h1) (s : ∀ x ∈ l, x ∈ l') : am_fr l' h h1 := fun x k hx => a x k (fun z => hx (s x z))
theorem am_fr_u {l : List Int} {h h1 : am_H} {x k v : Int} (a : am_fr l h h1) (hx : x ∈ l) : am_fr l h (am_u h1 x k v) := fun y j hy => by
  rw [am_u_n (fun z => hy (by rw [z.1]; exact hx))]; exact a y j hy
theorem t_go_i {ρ h : am_H} {r m s : Int} {Q : am_Q} (hR : am_RA ρ r) (hO : am_RO h r) (K : ∀ h1, am_fr [r + 3] h h1 → mt_eq (h r 1) (h1 (r + 3)) (mt_st (h r 1) (h r 0) (h (r + 1)) (h (r + 2))) → am_WP mX3_go 0 0 34 [some (am_R r), some (am_I m), some (am_I s), some (am_I (h r 1))] [] ρ h1 Q) :
    ∀ (n : Nat) (i : Int) (h1 : am_H), (h r 1 - i).toNat < n → 0 ≤ i → i ≤ h r 1 → am_fr [r + 3] h h1 → (∀ q, 0 ≤ q → q < i → h1 (r + 3) q = mt_st (h r 1) (h r 0) (h (r + 1)) (h (r + 2)) q) → am_WP mX3_go 0 0 9 [some (am_R r), some (am_I m), some (am_I s), some (am_I i)] [] ρ h1 Q := by
  obtain ⟨i1, i2, i3, i4, ⟨e1, e2, e3⟩, l1, l2, l3⟩ := id hR
  have r0 := i1.1
  obtain ⟨o1, o2, o3, o4, o5⟩ := id hO
  intro n
  induction n with
  | zero => intro i h1 hn; omega
  | succ n ih =>
    intro i h1 hn h0 hi hf hk
    have f0 : h1 r 0 = h r 0 := hf r 0 (by simp <;> omega)
    have f1 : h1 r 1 = h r 1 := hf r 1 (by simp <;> omega)
    have f2 : h1 (r + 1) = h (r + 1) := funext fun k => hf (r + 1) k (by simp <;> omega)
    have f3 : h1 (r + 2) = h (r + 2) := funext fun k => hf (r + 2) k (by simp <;> omega)
    have hO1 : am_RO h1 r := by unfold am_RO; rw [f0, f1, f3]; exact hO
    refine am_iload_n (pc' := 10) dX3_go_9 rfl rfl rfl ?_
    refine am_aload_n (pc' := 11) dX3_go_10 rfl rfl rfl ?_
    refine am_getIk (ki := 1) (pc' := 14) (k := 1) (ci := 3) rfl dX3_go_11 rfl fl_X3_15 (by first | assumption | exact ⟨by omega, by omega, rfl⟩) rfl ?_
    refine am_icmp_ge (pc' := 17) (tgt := 34) dX3_go_14 rfl rfl (fun c_14 => ?_) (fun c_14 => ?_)
    · have e9 : i = h r 1 := by omega
      rw [e9]; exact K h1 hf (fun q z0 z1 => hk q z0 (by omega))
    · refine am_aload_n (pc' := 18) dX3_go_17 rfl rfl rfl ?_
      refine am_getRk (ki := 4) (pc' := 21) (k := 4) (ci := 3) rfl dX3_go_18 rfl fl_X3_25 (by first | assumption | exact ⟨by omega, by omega, rfl⟩) rfl (by assumption) (by omega) ?_
      refine am_iload_n (pc' := 22) dX3_go_21 rfl rfl rfl ?_
      refine am_aload_n (pc' := 23) dX3_go_22 rfl rfl rfl ?_
      refine am_iload_n (pc' := 24) dX3_go_23 rfl rfl rfl ?_
      refine am_callVp (pc' := 27) (as := [_]) (ci := 3)  rfl dX3_go_24 rfl ok_X3_stepped ml_X3_66 im_X3_stepped se_X3_stepped rfl (Nat.le_of_ble_eq_true rfl) rfl (Nat.le_of_ble_eq_true rfl) (by first | assumption | exact ⟨by omega, by omega, rfl⟩) (t_stepped hR hO1 h0 (by omega)) ?_
      refine am_iastore (pc' := 28) dX3_go_27 rfl (by first | assumption | exact ⟨by omega, by omega, rfl⟩) (by omega) (by omega) ?_
      refine am_iinc (pc' := 31) (ls' := [_, _, _, _]) dX3_go_28 rfl rfl ⟨by omega, by omega⟩ (Nat.le_of_ble_eq_true rfl) rfl rfl ?_
      refine am_goto (pc' := 9) dX3_go_31 rfl ?_
      exact ih _ _ (by omega) (by omega) (by omega) (am_fr_u hf (by simp <;> omega)) (am_upto (fun k z0 z1 => by rw [am_u_n (by omega)]; exact hk k z0 z1) (by rw [am_u_s, f0, f1, f2, f3]))
theorem t_go_o {ρ h : am_H} {r m : Int} {Q : am_Q} (hR : am_RA ρ r) (hO : am_RO h r) (hm : m ≤ 1000) (hq : ∀ h1, am_fr [r + 2, r + 3] h h1 → mt_eq (h r 1) (h1 (r + 2)) (mt_it (h r 1) (h r 0) (h (r + 1)) m.toNat (h (r + 2))) → Q none ρ h1) :
    ∀ (n : Nat) (s : Int) (h1 : am_H) (v : Option am_V), (m - s).toNat < n → 0 ≤ s → (s ≤ m ∨ m < 0 ∧ s = 0) → am_fr [r + 2, r + 3] h h1 → mt_eq (h r 1) (h1 (r + 2)) (mt_it (h r 1) (h r 0) (h (r + 1)) s.toNat (h (r + 2))) → am_WP mX3_go 0 0 2 [some (am_R r), some (am_I m), some (am_I s), v] [] ρ h1 Q := by
  obtain ⟨i1, i2, i3, i4, ⟨e1, e2, e3⟩, l1, l2, l3⟩ := id hR
  have r0 := i1.1
  obtain ⟨o1, o2, o3, o4, o5⟩ := id hO
  intro n
  induction n with
  | zero => intro s h1 v hn; omega
  | succ n ih =>
    intro s h1 v hn h0 hs hf hk
    have f0 : h1 r 0 = h r 0 := hf r 0 (by simp <;> omega)
    have f1 : h1 r 1 = h r 1 := hf r 1 (by simp <;> omega)
    have f2 : h1 (r + 1) = h (r + 1) := funext fun k => hf (r + 1) k (by simp <;> omega)
    have hO1 : am_RO h1 r := ⟨by omega, by omega, by omega, by omega, fun p z0 z1 => by rw [f1] at z1; rw [hk p z0 z1, f0]; exact mt_it_in o1 o5 _ p z0 z1⟩
    refine am_iload_n (pc' := 3) dX3_go_2 rfl rfl rfl ?_
    refine am_iload_n (pc' := 4) dX3_go_3 rfl rfl rfl ?_
    refine am_icmp_ge (pc' := 7) (tgt := 57) dX3_go_4 rfl rfl (fun c_4 => ?_) (fun c_4 => ?_)
    · refine am_retv dX3_go_57 rfl ?_
      refine hq h1 hf (fun p z0 z1 => ?_)
      rw [hk p z0 z1]
      first | (rw [show s.toNat = m.toNat by omega]) | rfl
    · refine am_iconst (pc' := 8) dX3_go_7 rfl rfl ?_
      refine am_istore_n (pc' := 9) (ls' := [_, _, _, _]) dX3_go_8 rfl rfl (Nat.le_of_ble_eq_true rfl) rfl rfl ?_
      refine t_go_i hR hO1 (fun h2 g1 g2 => ?_) ((h r 1).toNat + 1) 0 h1 (by omega) (by omega) (by omega) am_fr_refl (fun q z0 z1 => by omega)
      have g3 : h2 r 1 = h r 1 := by rw [g1 r 1 (by simp <;> omega), f1]
      refine am_aload_n (pc' := 35) dX3_go_34 rfl rfl rfl ?_
      refine am_getRk (ki := 4) (pc' := 38) (k := 4) (ci := 3) rfl dX3_go_35 rfl fl_X3_25 (by first | assumption | exact ⟨by omega, by omega, rfl⟩) rfl (by assumption) (by omega) ?_
      refine am_iconst (pc' := 39) dX3_go_38 rfl rfl ?_
      refine am_aload_n (pc' := 40) dX3_go_39 rfl rfl rfl ?_
      refine am_getRk (ki := 3) (pc' := 43) (k := 3) (ci := 3) rfl dX3_go_40 rfl fl_X3_22 (by first | assumption | exact ⟨by omega, by omega, rfl⟩) rfl (by assumption) (by omega) ?_
      refine am_iconst (pc' := 44) dX3_go_43 rfl rfl ?_
      refine am_aload_n (pc' := 45) dX3_go_44 rfl rfl rfl ?_
      refine am_getIk (ki := 1) (pc' := 48) (k := 1) (ci := 3) rfl dX3_go_45 rfl fl_X3_15 (by first | assumption | exact ⟨by omega, by omega, rfl⟩) rfl ?_
      try rw [g3]
      refine am_acopy (pc' := 51) dX3_go_48 rfl ml_X3_36 nm_arraycopy sm_arraycopy in_System (by first | assumption | exact ⟨by omega, by omega, rfl⟩) (by first | assumption | exact ⟨by omega, by omega, rfl⟩) (by omega) (by omega) (by omega) (by omega) (by omega) (Nat.le_of_ble_eq_true rfl) rfl ?_
      refine am_iinc (pc' := 54) (ls' := [_, _, _, _]) dX3_go_51 rfl rfl ⟨by omega, by omega⟩ (Nat.le_of_ble_eq_true rfl) rfl rfl ?_
      refine am_goto (pc' := 2) dX3_go_54 rfl ?_
      exact ih _ _ _ (by omega) (by omega) (by omega) (fun x k hx => by simp at hx; unfold am_cpy; rw [if_neg (by omega), g1 x k (by simp <;> omega)]; exact hf x k (by simp <;> omega)) (fun p z0 z1 => by rw [show (s + 1).toNat = s.toNat + 1 by omega]; show am_cpy h2 (r + 3) 0 (r + 2) 0 (h r 1) (r + 2) p = mt_st _ _ _ _ p; unfold am_cpy; rw [if_pos (by omega), show 0 + (p - 0) = p by omega, g2 p z0 (by omega), f0, f1, f2]; exact mt_st_eq o1 (fun _ _ _ => rfl) hk p z0 z1)
theorem t_go {ρ h : am_H} {r m : Int} (hR : am_RA ρ r) (hO : am_RO h r) (hm : m ≤ 1000) : am_CT mX3_go 0 0 [am_R r, am_I m] ρ h (fun v ρ' h' => v = none ∧ ρ' = ρ ∧ am_fr [r + 2, r + 3] h h' ∧ mt_eq (h r 1) (h' (r + 2)) (mt_it (h r 1) (h r 0) (h (r + 1)) m.toNat (h (r + 2)))) := by
  refine am_ct (ls := [some (am_R r), some (am_I m), none, none]) ok_X3_go rfl (fun _ => Nat.le_of_ble_eq_true rfl) (fun _ => rfl) (by intro v hv; simpa using hv) ?_
  refine am_iconst (pc' := 1) dX3_go_0 rfl rfl ?_
  refine am_istore_n (pc' := 2) (ls' := [_, _, _, _]) dX3_go_1 rfl rfl (Nat.le_of_ble_eq_true rfl) rfl rfl ?_
  exact t_go_o hR hO hm (fun h1 f1 f2 => ⟨rfl, rfl, f1, f2⟩) (m.toNat + 1) 0 h _ (by omega) (by omega) (by omega) am_fr_refl (fun _ _ _ => rfl)
theorem t_takeKinds {ρ h : am_H} {r o : Int} (hR : am_RA ρ r) (hR2 : am_RA ρ o) (hne : o < r - 3 ∨ r + 3 < o) : am_CT mX3_takeKinds 0 0 [am_R r, am_R o] ρ h (fun v ρ' h' => v = none ∧ ρ' = ρ ∧ am_fr [r, r + 1] h h' ∧ h' r 0 = h o 0 ∧ h' r 1 = h o 1 ∧ ∀ p, 0 ≤ p → p < 5 → h' (r + 1) p = h (o + 1) p) := by
  obtain ⟨i1, i2, i3, i4, ⟨e1, e2, e3⟩, l1, l2, l3⟩ := id hR
  obtain ⟨j1, j2, j3, j4, ⟨k1, k2, k3⟩, m1, m2, m3⟩ := id hR2
  have r0 := i1.1
  have o0 := j1.1
  refine am_ct (ls := [some (am_R r), some (am_R o)]) ok_X3_takeKinds rfl (fun _ => Nat.le_of_ble_eq_true rfl) (fun _ => rfl) (by intro v hv; simpa using hv) ?_
  refine am_aload_n (pc' := 1) dX3_takeKinds_0 rfl rfl rfl ?_
  refine am_aload_n (pc' := 2) dX3_takeKinds_1 rfl rfl rfl ?_
  refine am_getIk (ki := 0) (pc' := 5) (k := 0) (ci := 3) rfl dX3_takeKinds_2 rfl fl_X3_9 (by first | assumption | exact ⟨by omega, by omega, rfl⟩) rfl ?_
  refine am_putIk (ki := 0) (pc' := 8) (k := 0) (ci := 3) rfl dX3_takeKinds_5 rfl fl_X3_9 (by first | assumption | exact ⟨by omega, by omega, rfl⟩) rfl (fun _ _ _ e => by cases e; rfl) ?_
  refine am_aload_n (pc' := 9) dX3_takeKinds_8 rfl rfl rfl ?_
  refine am_aload_n (pc' := 10) dX3_takeKinds_9 rfl rfl rfl ?_
  refine am_getIk (ki := 1) (pc' := 13) (k := 1) (ci := 3) rfl dX3_takeKinds_10 rfl fl_X3_15 (by first | assumption | exact ⟨by omega, by omega, rfl⟩) rfl ?_
  refine am_putIk (ki := 1) (pc' := 16) (k := 1) (ci := 3) rfl dX3_takeKinds_13 rfl fl_X3_15 (by first | assumption | exact ⟨by omega, by omega, rfl⟩) rfl (fun _ _ _ e => by cases e; rfl) ?_
  refine am_aload_n (pc' := 17) dX3_takeKinds_16 rfl rfl rfl ?_
  refine am_getRk (ki := 2) (pc' := 20) (k := 2) (ci := 3) rfl dX3_takeKinds_17 rfl fl_X3_18 (by first | assumption | exact ⟨by omega, by omega, rfl⟩) rfl (by assumption) (by omega) ?_
  refine am_iconst (pc' := 21) dX3_takeKinds_20 rfl rfl ?_
  refine am_aload_n (pc' := 22) dX3_takeKinds_21 rfl rfl rfl ?_
  refine am_getRk (ki := 2) (pc' := 25) (k := 2) (ci := 3) rfl dX3_takeKinds_22 rfl fl_X3_18 (by first | assumption | exact ⟨by omega, by omega, rfl⟩) rfl (by assumption) (by omega) ?_
  refine am_iconst (pc' := 26) dX3_takeKinds_25 rfl rfl ?_
  refine am_iconst (pc' := 27) dX3_takeKinds_26 rfl rfl ?_
  refine am_acopy (pc' := 30) dX3_takeKinds_27 rfl ml_X3_36 nm_arraycopy sm_arraycopy in_System (by first | assumption | exact ⟨by omega, by omega, rfl⟩) (by first | assumption | exact ⟨by omega, by omega, rfl⟩) (by omega) (by omega) (by omega) (by omega) (by omega) (Nat.le_of_ble_eq_true rfl) rfl ?_
  refine am_retv dX3_takeKinds_30 rfl ?_
  refine ⟨rfl, rfl, fun x k hx => ?_, ?_, ?_, fun p z0 z1 => ?_⟩
  · simp at hx; unfold am_cpy; rw [if_neg (by omega), am_u_n (by omega), am_u_n (by omega)]
  · unfold am_cpy; rw [if_neg (by omega), am_u_n (by omega), am_u_s]
  · unfold am_cpy; rw [if_neg (by omega), am_u_s, am_u_n (by omega)]
  · unfold am_cpy; rw [if_pos (by omega), am_u_n (by omega), am_u_n (by omega)]; congr 1; omega
theorem t_takeAll {ρ h : am_H} {r o : Int} (hR : am_RA ρ r) (hR2 : am_RA ρ o) (hne : o < r - 3 ∨ r + 3 < o) : am_CT mX3_takeAll 0 0 [am_R r, am_R o] ρ h (fun v ρ' h' => v = none ∧ ρ' = ρ ∧ am_fr [r, r + 1, r + 2] h h' ∧ h' r 0 = h o 0 ∧ h' r 1 = h o 1 ∧ (∀ p, 0 ≤ p → p < 5 → h' (r + 1) p = h (o + 1) p) ∧ ∀ p, 0 ≤ p → p < 5 → h' (r + 2) p = h (o + 2) p) := by
  obtain ⟨i1, i2, i3, i4, ⟨e1, e2, e3⟩, l1, l2, l3⟩ := id hR
  obtain ⟨j1, j2, j3, j4, ⟨k1, k2, k3⟩, m1, m2, m3⟩ := id hR2
  have r0 := i1.1
  have o0 := j1.1
  refine am_ct (ls := [some (am_R r), some (am_R o)]) ok_X3_takeAll rfl (fun _ => Nat.le_of_ble_eq_true rfl) (fun _ => rfl) (by intro v hv; simpa using hv) ?_
  refine am_aload_n (pc' := 1) dX3_takeAll_0 rfl rfl rfl ?_
  refine am_aload_n (pc' := 2) dX3_takeAll_1 rfl rfl rfl ?_
  refine am_callV0 (pc' := 5) (as := [_]) (ci := 3)  rfl dX3_takeAll_2 rfl ok_X3_takeKinds ml_X3_32 im_X3_takeKinds se_X3_takeKinds rfl (Nat.le_of_ble_eq_true rfl) rfl (Nat.le_of_ble_eq_true rfl) (by first | assumption | exact ⟨by omega, by omega, rfl⟩) (t_takeKinds hR hR2 hne) (fun r_2 ρ_2 h_2 q_2 g_2 e_2 => ?_)
  obtain ⟨rfl, rfl, f1, f2, f3, f4⟩ := q_2
  refine am_aload_n (pc' := 6) dX3_takeAll_5 rfl rfl rfl ?_
  refine am_getRk (ki := 3) (pc' := 9) (k := 3) (ci := 3) rfl dX3_takeAll_6 rfl fl_X3_22 (by first | assumption | exact ⟨by omega, by omega, rfl⟩) rfl (by assumption) (by omega) ?_
  refine am_iconst (pc' := 10) dX3_takeAll_9 rfl rfl ?_
  refine am_aload_n (pc' := 11) dX3_takeAll_10 rfl rfl rfl ?_
  refine am_getRk (ki := 3) (pc' := 14) (k := 3) (ci := 3) rfl dX3_takeAll_11 rfl fl_X3_22 (by first | assumption | exact ⟨by omega, by omega, rfl⟩) rfl (by assumption) (by omega) ?_
  refine am_iconst (pc' := 15) dX3_takeAll_14 rfl rfl ?_
  refine am_iconst (pc' := 16) dX3_takeAll_15 rfl rfl ?_
  refine am_acopy (pc' := 19) dX3_takeAll_16 rfl ml_X3_36 nm_arraycopy sm_arraycopy in_System (by first | assumption | exact ⟨by omega, by omega, rfl⟩) (by first | assumption | exact ⟨by omega, by omega, rfl⟩) (by omega) (by omega) (by omega) (by omega) (by omega) (Nat.le_of_ble_eq_true rfl) rfl ?_
  refine am_retv dX3_takeAll_19 rfl ?_
  refine ⟨rfl, rfl, fun x k hx => ?_, ?_, ?_, fun p z0 z1 => ?_, fun p z0 z1 => ?_⟩
  · simp at hx; unfold am_cpy; rw [if_neg (by omega), f1 x k (by simp <;> omega)]
  · unfold am_cpy; rw [if_neg (by omega), f2]
  · unfold am_cpy; rw [if_neg (by omega), f3]
  · unfold am_cpy; rw [if_neg (by omega), f4 p z0 z1]
  · unfold am_cpy; rw [if_pos (by omega), f1 _ _ (by simp <;> omega)]; congr 1; omega
theorem t_takeFirstRow {ρ h : am_H} {r : Int} (hR : am_RA ρ r) : am_CT mX3_takeFirstRow 0 0 [am_R r] ρ h (fun v ρ' h' => v = none ∧ ρ' = ρ ∧ am_fr [r + 2] h h' ∧ ∀ p, 0 ≤ p → p < 5 → h' (r + 2) p = 0) := by
  obtain ⟨i1, i2, i3, i4, ⟨e1, e2, e3⟩, l1, l2, l3⟩ := id hR
  have r0 := i1.1
  refine am_ct (ls := [some (am_R r)]) ok_X3_takeFirstRow rfl (fun _ => Nat.le_of_ble_eq_true rfl) (fun _ => rfl) (by intro v hv; simpa using hv) ?_
  refine am_aload_n (pc' := 1) dX3_takeFirstRow_0 rfl rfl rfl ?_
  refine am_getRk (ki := 3) (pc' := 4) (k := 3) (ci := 3) rfl dX3_takeFirstRow_1 rfl fl_X3_22 (by first | assumption | exact ⟨by omega, by omega, rfl⟩) rfl (by assumption) (by omega) ?_
  refine am_iconst (pc' := 5) dX3_takeFirstRow_4 rfl rfl ?_
  refine am_callS0 (pc' := 8) (as := [_, _])  rfl dX3_takeFirstRow_5 rfl ok_J7_fill_53178 ml_X3_51 sm_J7_fill_53178 (Nat.le_of_ble_eq_true rfl) rfl (Nat.le_of_ble_eq_true rfl) (t_fill i3 l2 (by omega) (by omega)) (fun r_5 ρ_5 h_5 q_5 g_5 e_5 => ?_)
  obtain ⟨rfl, rfl, f1, f2⟩ := q_5
  refine am_retv dX3_takeFirstRow_8 rfl ?_
  exact ⟨rfl, rfl, f1, f2⟩
theorem t_takeRow_l {ρ h : am_H} {r x i : Int} {Q : am_Q} (hR : am_RA ρ r) (hS : am_SA ρ x) (hSO : am_SO h x) (hne : x + 1 < r ∨ r + 3 < x) (hP : 0 ≤ h r 1 ∧ h r 1 ≤ 5) (hi : 0 ≤ i ∧ i ≤ 60)
    (hq0 : ∀ h1 p, am_fr [r + 2] h h1 → 0 ≤ p → p < h r 1 → ¬ (0 ≤ sh_at h x (i + p) ∧ sh_at h x (i + p) < h r 0) → Q (some (am_I 0)) ρ h1) (hq1 : ∀ h1, am_fr [r + 2] h h1 → (∀ p, 0 ≤ p → p < h r 1 → h1 (r + 2) p = sh_at h x (i + p) ∧ 0 ≤ sh_at h x (i + p) ∧ sh_at h x (i + p) < h r 0) → Q (some (am_I 1)) ρ h1) :
    ∀ (n : Nat) (p : Int) (h1 : am_H) (v : Option am_V), (h r 1 - p).toNat < n → 0 ≤ p → p ≤ h r 1 → am_fr [r + 2] h h1 → (∀ q, 0 ≤ q → q < p → h1 (r + 2) q = sh_at h x (i + q) ∧ 0 ≤ sh_at h x (i + q) ∧ sh_at h x (i + q) < h r 0) → am_WP mX3_takeRow 0 0 2 [some (am_R r), some (am_R x), some (am_I i), some (am_I p), v] [] ρ h1 Q := by
  obtain ⟨i1, i2, i3, i4, ⟨e1, e2, e3⟩, l1, l2, l3⟩ := id hR
  obtain ⟨j1, j2, f1, m1⟩ := id hS
  have r0 := i1.1
  have x0 := j1.1
  intro n
  induction n with
  | zero => intro p h1 v hn; omega
  | succ n ih =>
    intro p h1 v hn h0 hp hf hk
    have f0 : h1 r 0 = h r 0 := hf r 0 (by simp <;> omega)
    have f1 : h1 r 1 = h r 1 := hf r 1 (by simp <;> omega)
    have f2 : h1 x 1 = h x 1 := hf x 1 (by simp <;> omega)
    have f3 : sh_at h1 x (i + p) = sh_at h x (i + p) := by unfold sh_at; rw [f2, hf (x + 1) _ (by simp <;> omega)]
    have hSO1 : am_SO h1 x := by unfold am_SO; rw [f2]; exact hSO
    refine am_iload_n (pc' := 3) dX3_takeRow_2 rfl rfl rfl ?_
    refine am_aload_n (pc' := 4) dX3_takeRow_3 rfl rfl rfl ?_
    refine am_getIk (ki := 1) (pc' := 7) (k := 1) (ci := 3) rfl dX3_takeRow_4 rfl fl_X3_15 (by first | assumption | exact ⟨by omega, by omega, rfl⟩) rfl ?_
    refine am_icmp_ge (pc' := 10) (tgt := 44) dX3_takeRow_7 rfl rfl (fun c_7 => ?_) (fun c_7 => ?_)
    · refine am_iconst (pc' := 45) dX3_takeRow_44 rfl rfl ?_
      refine am_retz dX3_takeRow_45 rfl (by first | exact Or.inl rfl | exact Or.inr rfl | omega) ?_
      exact hq1 h1 hf (fun q z0 z1 => hk q z0 (by omega))
    · refine am_aload_n (pc' := 11) dX3_takeRow_10 rfl rfl rfl ?_
      refine am_iload_n (pc' := 12) dX3_takeRow_11 rfl rfl rfl ?_
      refine am_iload_n (pc' := 13) dX3_takeRow_12 rfl rfl rfl ?_
      refine am_iadd (pc' := 14) dX3_takeRow_13 rfl ⟨by omega, by omega⟩ ?_
      refine am_callVp (pc' := 17) (as := [_]) (ci := 4)  rfl dX3_takeRow_14 rfl ok_X4_at ml_X3_42 im_X4_at se_X4_at rfl (Nat.le_of_ble_eq_true rfl) rfl (Nat.le_of_ble_eq_true rfl) (by first | assumption | exact ⟨by omega, by omega, rfl⟩) (t_at hS hSO1) ?_
      refine am_istore (pc' := 19) (ls' := [_, _, _, _, _]) dX3_takeRow_17 rfl (Nat.le_of_ble_eq_true rfl) rfl rfl ?_
      refine am_aload_n (pc' := 20) dX3_takeRow_19 rfl rfl rfl ?_
      refine am_iload (pc' := 22) dX3_takeRow_20 rfl rfl ?_
      refine am_callVp (pc' := 25) (as := [_]) (ci := 3)  rfl dX3_takeRow_22 rfl ok_X3_isNumber ml_X3_48 im_X3_isNumber se_X3_isNumber rfl (Nat.le_of_ble_eq_true rfl) rfl (Nat.le_of_ble_eq_true rfl) (by first | assumption | exact ⟨by omega, by omega, rfl⟩) (t_isNumber hR) ?_
      refine am_if_ne (pc' := 28) (tgt := 30) dX3_takeRow_25 rfl rfl (fun c_25 => ?_) (fun c_25 => ?_)
      · simp only [am_z0, am_z1, ne_eq] at c_25
        rw [f3, f0] at c_25
        refine am_aload_n (pc' := 31) dX3_takeRow_30 rfl rfl rfl ?_
        refine am_getRk (ki := 3) (pc' := 34) (k := 3) (ci := 3) rfl dX3_takeRow_31 rfl fl_X3_22 (by first | assumption | exact ⟨by omega, by omega, rfl⟩) rfl (by assumption) (by omega) ?_
        refine am_iload_n (pc' := 35) dX3_takeRow_34 rfl rfl rfl ?_
        refine am_iload (pc' := 37) dX3_takeRow_35 rfl rfl ?_
        refine am_iastore (pc' := 38) dX3_takeRow_37 rfl (by first | assumption | exact ⟨by omega, by omega, rfl⟩) (by omega) (by omega) ?_
        refine am_iinc (pc' := 41) (ls' := [_, _, _, _, _]) dX3_takeRow_38 rfl rfl ⟨by omega, by omega⟩ (Nat.le_of_ble_eq_true rfl) rfl rfl ?_
        refine am_goto (pc' := 2) dX3_takeRow_41 rfl ?_
        exact ih _ _ _ (by omega) (by omega) (by omega) (am_fr_u hf (by simp <;> omega)) (am_upto (fun q z0 z1 => by rw [am_u_n (by omega)]; exact hk q z0 z1) ⟨by rw [am_u_s, f3], c_25⟩)
      · simp only [am_z0, am_z1, ne_eq] at c_25
        rw [f3, f0] at c_25
        refine am_iconst (pc' := 29) dX3_takeRow_28 rfl rfl ?_
        refine am_retz dX3_takeRow_29 rfl (by first | exact Or.inl rfl | exact Or.inr rfl | omega) ?_
        exact hq0 h1 p hf h0 (by omega) c_25
theorem t_takeRow {ρ h : am_H} {r x i : Int} (hR : am_RA ρ r) (hS : am_SA ρ x) (hSO : am_SO h x) (hne : x + 1 < r ∨ r + 3 < x) (hP : 0 ≤ h r 1 ∧ h r 1 ≤ 5) (hi : 0 ≤ i ∧ i ≤ 60) : am_CT mX3_takeRow 0 0 [am_R r, am_R x, am_I i] ρ h (fun v ρ' h' => ρ' = ρ ∧ am_fr [r + 2] h h' ∧ ((v = some (am_I 0) ∧ ∃ p, 0 ≤ p ∧ p < h r 1 ∧ ¬ (0 ≤ sh_at h x (i + p) ∧ sh_at h x (i + p) < h r 0)) ∨ (v = some (am_I 1) ∧ ∀ p, 0 ≤ p → p < h r 1 → h' (r + 2) p = sh_at h x (i + p) ∧ 0 ≤ sh_at h x (i + p) ∧ sh_at h x (i + p) < h r 0))) := by
  refine am_ct (ls := [some (am_R r), some (am_R x), some (am_I i), none, none]) ok_X3_takeRow rfl (fun _ => Nat.le_of_ble_eq_true rfl) (fun _ => rfl) (by intro v hv; simpa using hv) ?_
  refine am_iconst (pc' := 1) dX3_takeRow_0 rfl rfl ?_
  refine am_istore_n (pc' := 2) (ls' := [_, _, _, _, _]) dX3_takeRow_1 rfl rfl (Nat.le_of_ble_eq_true rfl) rfl rfl ?_
  exact t_takeRow_l hR hS hSO hne hP hi (fun h1 p f z0 z1 z2 => ⟨rfl, f, Or.inl ⟨rfl, p, z0, z1, z2⟩⟩) (fun h1 f z => ⟨rfl, f, Or.inr ⟨rfl, z⟩⟩) ((h r 1).toNat + 1) 0 h _ (by omega) (by omega) (by omega) am_fr_refl (fun q z0 z1 => by omega)
