/-! the model: firsts -/
theorem t8_firsts_l {ρ h : am_H} {p : Int} {Q : am_Q} (hM : am_LM ρ) (hA : md_A h) (hnm : mt_ok (h 38 1) (h 38 2) (h 40)) (hO : md_O h) (hp : 0 ≤ p ∧ p < h 38 1) (hq : ∀ h1 S, md_fr h h1 → st_is (h 38 2) (fun k => md_so h (h 39) (mt_up (h 40) p k)) S → Q (some (am_I S)) ρ h1) :
    ∀ (n : Nat) (k S : Int) (h1 : am_H), (h 38 2 - k).toNat < n → 0 ≤ k → k ≤ h 38 2 → am_fr [40, 43, 44] h h1 → (∀ q, q ≠ p → h1 40 q = h 40 q) → st_is k (fun k => md_so h (h 39) (mt_up (h 40) p k)) S → am_WP mX8_firsts 0 0 22 [some (am_R 38), some (am_I p), some (am_I (h 40 p)), some (am_I S), some (am_I k)] [] ρ h1 Q := by
  have hn58 := hM.1
  have a1 := hA.1
  have e3 := am_lm hM 38 5 40 (by decide)
  have l3 := am_lm hM 40 (-1) 5 (by decide)
  intro n
  induction n with
  | zero => intro k S h1 hk; omega
  | succ n ih =>
    intro k S h1 hk h0 h9 hf hr hS
    have a2 := hA.2
    have hSb := st_lt hS (by omega)
    have gB : h1 38 2 = h 38 2 := hf 38 2 (by simp <;> omega)
    have K55 : ∀ T h2, k < h 38 2 → am_fr [40, 43, 44] h h2 → (∀ q, q ≠ p → h2 40 q = h 40 q) → (0 ≤ T ∧ T ≤ 40) → st_is (k + 1) (fun k => md_so h (h 39) (mt_up (h 40) p k)) ((S.toNat ||| T.toNat : Nat) : Int) → am_WP mX8_firsts 0 0 55 [some (am_R 38), some (am_I p), some (am_I (h 40 p)), some (am_I S), some (am_I k)] [am_I T, am_I S] ρ h2 Q := by
      intro T h2 hk3 hf2 hr2 hT hS2
      refine am_ior (pc' := 56) dX8_firsts_55 rfl ⟨by omega, by omega⟩ ⟨by omega, by omega⟩ ?_
      refine am_istore_n (pc' := 57) (ls' := [_, _, _, _, _]) dX8_firsts_56 rfl rfl (Nat.le_of_ble_eq_true rfl) rfl rfl ?_
      refine am_iinc (pc' := 60) (ls' := [_, _, _, _, _]) dX8_firsts_57 rfl rfl ⟨by omega, by omega⟩ (Nat.le_of_ble_eq_true rfl) rfl rfl ?_
      refine am_goto (pc' := 22) dX8_firsts_60 rfl ?_
      exact ih _ _ _ (by omega) (by omega) (by omega) hf2 hr2 hS2
    refine am_iload (pc' := 24) dX8_firsts_22 rfl rfl ?_
    refine am_aload_n (pc' := 25) dX8_firsts_24 rfl rfl rfl ?_
    refine am_getIk (ki := 2) (pc' := 28) (k := 2) (ci := 7) rfl dX8_firsts_25 rfl fl_X8_127 (by first | assumption | exact ⟨by omega, by omega, rfl⟩) rfl ?_
    refine am_icmp_ge (pc' := 31) (tgt := 63) dX8_firsts_28 rfl rfl (fun c_28 => ?_) (fun c_28 => ?_)
    · refine am_aload_n (pc' := 64) dX8_firsts_63 rfl rfl rfl ?_
      refine am_getRk (ki := 5) (pc' := 67) (k := 5) (ci := 7) rfl dX8_firsts_64 rfl fl_X8_13 (by first | assumption | exact ⟨by omega, by omega, rfl⟩) rfl (by assumption) (by omega) ?_
      refine am_iload_n (pc' := 68) dX8_firsts_67 rfl rfl rfl ?_
      refine am_iload_n (pc' := 69) dX8_firsts_68 rfl rfl rfl ?_
      refine am_iastore (pc' := 70) dX8_firsts_69 rfl (by first | assumption | exact ⟨by omega, by omega, rfl⟩) (by omega) (by omega) ?_
      refine am_iload_n (pc' := 71) dX8_firsts_70 rfl rfl rfl ?_
      refine am_reti dX8_firsts_71 rfl ?_
      refine hq _ S ⟨fun x j z1 z2 z3 => ?_, fun j z => ?_⟩ (by rw [show h 38 2 = k by omega]; exact hS)
      · by_cases y : x = 40
        · subst y
          rw [am_u_if]
          by_cases w : j = p
          · rw [if_pos w, w]
          · rw [if_neg w]; exact hr j w
        · rw [am_u_n (by omega)]; exact hf x j (by simp <;> omega)
      · rw [am_u_n (by omega)]; exact hf 38 j (by simp <;> omega)
    · refine am_aload_n (pc' := 32) dX8_firsts_31 rfl rfl rfl ?_
      refine am_getRk (ki := 5) (pc' := 35) (k := 5) (ci := 7) rfl dX8_firsts_32 rfl fl_X8_13 (by first | assumption | exact ⟨by omega, by omega, rfl⟩) rfl (by assumption) (by omega) ?_
      refine am_iload_n (pc' := 36) dX8_firsts_35 rfl rfl rfl ?_
      refine am_iload (pc' := 38) dX8_firsts_36 rfl rfl ?_
      refine am_iastore (pc' := 39) dX8_firsts_38 rfl (by first | assumption | exact ⟨by omega, by omega, rfl⟩) (by omega) (by omega) ?_
      generalize hg : am_u h1 40 p k = h2
      have f2 : am_fr [40, 43, 44] h h2 := by rw [← hg]; exact am_fr_u hf (by simp <;> omega)
      have r2 : ∀ q, q ≠ p → h2 40 q = h 40 q := fun q hq9 => by rw [← hg, am_u_n (by omega)]; exact hr q hq9
      have k2 : h2 40 = mt_up (h 40) p k := funext fun q => by
        unfold mt_up
        by_cases z : q = p
        · rw [if_pos z, z, ← hg, am_u_s]
        · rw [if_neg z]; exact r2 q z
      have g1 : ∀ j, h2 38 j = h 38 j := fun j => f2 38 j (by simp <;> omega)
      have gg : ∀ y, y = 39 ∨ y = 51 ∨ y = 52 ∨ y = 53 → h2 y = h y := fun y hy => funext fun j => f2 y j (by simp <;> omega)
      have hA2 : md_A h2 := by unfold md_A; rw [g1, g1]; exact hA
      have hn2 : mt_ok (h2 38 1) (h2 38 2) (h2 40) := by rw [g1, g1, k2]; intro q q0 q1; unfold mt_up; split <;> first | omega | exact hnm q q0 q1
      have hO2 : md_O h2 := by unfold md_O; rw [g1, g1, gg 51 (by omega), gg 52 (by omega)]; exact hO
      refine am_iload_n (pc' := 40) dX8_firsts_39 rfl rfl rfl ?_
      refine am_aload_n (pc' := 41) dX8_firsts_40 rfl rfl rfl ?_
      refine am_callV0 (pc' := 44) (as := []) (ci := 7)  rfl dX8_firsts_41 rfl ok_X8_areSo ml_X8_246 im_X8_areSo se_X8_areSo rfl (Nat.le_of_ble_eq_true rfl) rfl (Nat.le_of_ble_eq_true rfl) (by first | assumption | exact ⟨by omega, by omega, rfl⟩) (t8_areSo hM hA2 hn2 hO2) (fun r_41 ρ_41 h_41 q_41 g_41 e_41 => ?_)
      obtain ⟨rfl, w1, w2⟩ := q_41
      rw [g1, g1, g1, k2, gg 39 (by omega), gg 51 (by omega), gg 52 (by omega), gg 53 (by omega)] at w2
      have wf : am_fr [40, 43, 44] h h_41 := am_fr_trans f2 (am_fr_sub w1 (by intro x hx; simp at hx ⊢; omega))
      have wr : ∀ q, q ≠ p → h_41 40 q = h 40 q := fun q hq9 => (w1 40 q (by simp <;> omega)).trans (r2 q hq9)
      unfold am_tf at w2
      rcases w2 with ⟨rfl, wA⟩ | ⟨rfl, wA⟩
      · refine am_if_eq (pc' := 47) (tgt := 54) dX8_firsts_44 rfl rfl (fun c_44 => ?_) (fun c_44 => ?_)
        · refine am_iconst (pc' := 55) dX8_firsts_54 rfl rfl ?_
          first | (exfalso; omega) | exact K55 _ _ (by omega) wf wr ⟨Int.natCast_nonneg _, by omega⟩ (st_add hS h0 wA) | exact K55 0 _ (by omega) wf wr (by omega) (by rw [st_or0 hSb.1]; exact st_skip hS wA) | fail
        · refine am_iconst (pc' := 48) dX8_firsts_47 rfl rfl ?_
          refine am_iload (pc' := 50) dX8_firsts_48 rfl rfl ?_
          have h2p : (2 : Nat) ^ k.toNat ≤ 32 := two5 (by omega)
          refine am_ishl1 (pc' := 51) dX8_firsts_50 rfl (by omega) (by omega) ?_
          refine am_goto (pc' := 55) dX8_firsts_51 rfl ?_
          first | (exfalso; omega) | exact K55 _ _ (by omega) wf wr ⟨Int.natCast_nonneg _, by omega⟩ (st_add hS h0 wA) | exact K55 0 _ (by omega) wf wr (by omega) (by rw [st_or0 hSb.1]; exact st_skip hS wA) | fail
      · refine am_if_eq (pc' := 47) (tgt := 54) dX8_firsts_44 rfl rfl (fun c_44 => ?_) (fun c_44 => ?_)
        · refine am_iconst (pc' := 55) dX8_firsts_54 rfl rfl ?_
          first | (exfalso; omega) | exact K55 _ _ (by omega) wf wr ⟨Int.natCast_nonneg _, by omega⟩ (st_add hS h0 wA) | exact K55 0 _ (by omega) wf wr (by omega) (by rw [st_or0 hSb.1]; exact st_skip hS wA) | fail
        · refine am_iconst (pc' := 48) dX8_firsts_47 rfl rfl ?_
          refine am_iload (pc' := 50) dX8_firsts_48 rfl rfl ?_
          have h2p : (2 : Nat) ^ k.toNat ≤ 32 := two5 (by omega)
          refine am_ishl1 (pc' := 51) dX8_firsts_50 rfl (by omega) (by omega) ?_
          refine am_goto (pc' := 55) dX8_firsts_51 rfl ?_
          first | (exfalso; omega) | exact K55 _ _ (by omega) wf wr ⟨Int.natCast_nonneg _, by omega⟩ (st_add hS h0 wA) | exact K55 0 _ (by omega) wf wr (by omega) (by rw [st_or0 hSb.1]; exact st_skip hS wA) | fail
theorem t8_firsts {ρ h : am_H} {p : Int} (hM : am_LM ρ) (hR : md_R h) (hO : md_O h) : am_CT mX8_firsts 0 0 [am_R 38, am_I p] ρ h (fun r ρ' h' => ρ' = ρ ∧ md_fr h h' ∧ ((¬ (0 ≤ p ∧ p < h 38 1) ∧ r = some (am_I (-1))) ∨ ((0 ≤ p ∧ p < h 38 1) ∧ ∃ S, r = some (am_I S) ∧ st_is (h 38 2) (fun k => md_so h (h 39) (mt_up (h 40) p k)) S))) := by
  have hn58 := hM.1
  have hP5 := (md_P5 hR).1
  have e3 := am_lm hM 38 5 40 (by decide)
  have l3 := am_lm hM 40 (-1) 5 (by decide)
  refine am_ct (ls := [some (am_R 38), some (am_I p), none, none, none]) ok_X8_firsts rfl (fun _ => Nat.le_of_ble_eq_true rfl) (fun _ => rfl) (by intro v hv; simpa using hv) ?_
  refine am_aload_n (pc' := 1) dX8_firsts_0 rfl rfl rfl ?_
  refine am_iload_n (pc' := 2) dX8_firsts_1 rfl rfl rfl ?_
  refine am_callVp (pc' := 5) (as := [_]) (ci := 7)  rfl dX8_firsts_2 rfl ok_X8_noPlace ml_X8_149 im_X8_noPlace se_X8_noPlace rfl (Nat.le_of_ble_eq_true rfl) rfl (Nat.le_of_ble_eq_true rfl) (by first | assumption | exact ⟨by omega, by omega, rfl⟩) (t8_noPlace hM hP5) ?_
  refine am_if_eq (pc' := 8) (tgt := 10) dX8_firsts_5 rfl rfl (fun c_5 => ?_) (fun c_5 => ?_)
  · simp only [am_z0, am_z1, ne_eq] at c_5
    obtain ⟨hA, hnm, hkd⟩ := md_RA hR (show h 38 1 ≠ 0 by omega)
    refine am_aload_n (pc' := 11) dX8_firsts_10 rfl rfl rfl ?_
    refine am_getRk (ki := 5) (pc' := 14) (k := 5) (ci := 7) rfl dX8_firsts_11 rfl fl_X8_13 (by first | assumption | exact ⟨by omega, by omega, rfl⟩) rfl (by assumption) (by omega) ?_
    refine am_iload_n (pc' := 15) dX8_firsts_14 rfl rfl rfl ?_
    refine am_iaload (pc' := 16) dX8_firsts_15 rfl (by first | assumption | exact ⟨by omega, by omega, rfl⟩) (by omega) (by omega) ?_
    refine am_istore_n (pc' := 17) (ls' := [_, _, _, _, _]) dX8_firsts_16 rfl rfl (Nat.le_of_ble_eq_true rfl) rfl rfl ?_
    refine am_iconst (pc' := 18) dX8_firsts_17 rfl rfl ?_
    refine am_istore_n (pc' := 19) (ls' := [_, _, _, _, _]) dX8_firsts_18 rfl rfl (Nat.le_of_ble_eq_true rfl) rfl rfl ?_
    refine am_iconst (pc' := 20) dX8_firsts_19 rfl rfl ?_
    refine am_istore (pc' := 22) (ls' := [_, _, _, _, _]) dX8_firsts_20 rfl (Nat.le_of_ble_eq_true rfl) rfl rfl ?_
    exact t8_firsts_l hM hA hnm hO (by omega) (fun h1 S a b => ⟨rfl, a, Or.inr ⟨by omega, S, rfl, b⟩⟩) ((h 38 2).toNat + 1) 0 0 h (by omega) (by omega) (by have := hA.2.1; omega) am_fr_refl (fun _ _ => rfl) (st_0 _)
  · simp only [am_z0, am_z1, ne_eq] at c_5
    refine am_iconst (pc' := 9) dX8_firsts_8 rfl rfl ?_
    refine am_reti dX8_firsts_9 rfl ?_
    exact ⟨rfl, md_fr_r, Or.inl ⟨by omega, rfl⟩⟩
