/-! the model: kinds -/
theorem st_or0 {S : Int} (h : 0 ≤ S) : ((S.toNat ||| (0 : Int).toNat : Nat) : Int) = S := by
  rw [show (0 : Int).toNat = 0 from rfl, Nat.or_zero]
  omega
def md_so (h : am_H) (kd f : Int → Int) : Prop := so_g (h 38 23) (h 51) (h 52) (h 53) (h 38 1) (h 38 2) kd f
theorem t8_kinds_l {ρ h : am_H} {p : Int} {Q : am_Q} (hM : am_LM ρ) (hA : md_A h) (hnm : mt_ok (h 38 1) (h 38 2) (h 40)) (hO : md_O h) (hp : 0 ≤ p ∧ p < h 38 1) (hq : ∀ h1 S, md_fr h h1 → st_is 3 (fun k => md_so h (mt_up (h 39) p k) (h 40)) S → Q (some (am_I S)) ρ h1) :
    ∀ (n : Nat) (k S : Int) (h1 : am_H), (3 - k).toNat < n → 0 ≤ k → k ≤ 3 → am_fr [39, 43, 44] h h1 → (∀ q, q ≠ p → h1 39 q = h 39 q) → st_is k (fun k => md_so h (mt_up (h 39) p k) (h 40)) S → am_WP mX8_kinds 0 0 22 [some (am_R 38), some (am_I p), some (am_I (h 39 p)), some (am_I S), some (am_I k)] [] ρ h1 Q := by
  have hn58 := hM.1
  have a1 := hA.1
  have e3 := am_lm hM 38 4 39 (by decide)
  have l3 := am_lm hM 39 (-1) 5 (by decide)
  intro n
  induction n with
  | zero => intro k S h1 hk; omega
  | succ n ih =>
    intro k S h1 hk h0 h9 hf hr hS
    have hSb := st_lt hS (by omega)
    have K52 : ∀ T h2, k < 3 → am_fr [39, 43, 44] h h2 → (∀ q, q ≠ p → h2 39 q = h 39 q) → (0 ≤ T ∧ T ≤ 40) → st_is (k + 1) (fun k => md_so h (mt_up (h 39) p k) (h 40)) ((S.toNat ||| T.toNat : Nat) : Int) → am_WP mX8_kinds 0 0 52 [some (am_R 38), some (am_I p), some (am_I (h 39 p)), some (am_I S), some (am_I k)] [am_I T, am_I S] ρ h2 Q := by
      intro T h2 hk3 hf2 hr2 hT hS2
      refine am_ior (pc' := 53) dX8_kinds_52 rfl ⟨by omega, by omega⟩ ⟨by omega, by omega⟩ ?_
      refine am_istore_n (pc' := 54) (ls' := [_, _, _, _, _]) dX8_kinds_53 rfl rfl (Nat.le_of_ble_eq_true rfl) rfl rfl ?_
      refine am_iinc (pc' := 57) (ls' := [_, _, _, _, _]) dX8_kinds_54 rfl rfl ⟨by omega, by omega⟩ (Nat.le_of_ble_eq_true rfl) rfl rfl ?_
      refine am_goto (pc' := 22) dX8_kinds_57 rfl ?_
      exact ih _ _ _ (by omega) (by omega) (by omega) hf2 hr2 hS2
    refine am_iload (pc' := 24) dX8_kinds_22 rfl rfl ?_
    refine am_iconst (pc' := 25) dX8_kinds_24 rfl rfl ?_
    refine am_icmp_ge (pc' := 28) (tgt := 60) dX8_kinds_25 rfl rfl (fun c_25 => ?_) (fun c_25 => ?_)
    · refine am_aload_n (pc' := 61) dX8_kinds_60 rfl rfl rfl ?_
      refine am_getRk (ki := 4) (pc' := 64) (k := 4) (ci := 7) rfl dX8_kinds_61 rfl fl_X8_7 (by first | assumption | exact ⟨by omega, by omega, rfl⟩) rfl (by assumption) (by omega) ?_
      refine am_iload_n (pc' := 65) dX8_kinds_64 rfl rfl rfl ?_
      refine am_iload_n (pc' := 66) dX8_kinds_65 rfl rfl rfl ?_
      refine am_iastore (pc' := 67) dX8_kinds_66 rfl (by first | assumption | exact ⟨by omega, by omega, rfl⟩) (by omega) (by omega) ?_
      refine am_iload_n (pc' := 68) dX8_kinds_67 rfl rfl rfl ?_
      refine am_reti dX8_kinds_68 rfl ?_
      refine hq _ S ⟨fun x j z1 z2 z3 => ?_, fun j z => ?_⟩ (by rw [show (3 : Int) = k by omega]; exact hS)
      · by_cases y : x = 39
        · subst y
          rw [am_u_if]
          by_cases w : j = p
          · rw [if_pos w, w]
          · rw [if_neg w]; exact hr j w
        · rw [am_u_n (by omega)]; exact hf x j (by simp <;> omega)
      · rw [am_u_n (by omega)]; exact hf 38 j (by simp <;> omega)
    · refine am_aload_n (pc' := 29) dX8_kinds_28 rfl rfl rfl ?_
      refine am_getRk (ki := 4) (pc' := 32) (k := 4) (ci := 7) rfl dX8_kinds_29 rfl fl_X8_7 (by first | assumption | exact ⟨by omega, by omega, rfl⟩) rfl (by assumption) (by omega) ?_
      refine am_iload_n (pc' := 33) dX8_kinds_32 rfl rfl rfl ?_
      refine am_iload (pc' := 35) dX8_kinds_33 rfl rfl ?_
      refine am_iastore (pc' := 36) dX8_kinds_35 rfl (by first | assumption | exact ⟨by omega, by omega, rfl⟩) (by omega) (by omega) ?_
      generalize hg : am_u h1 39 p k = h2
      have f2 : am_fr [39, 43, 44] h h2 := by rw [← hg]; exact am_fr_u hf (by simp <;> omega)
      have r2 : ∀ q, q ≠ p → h2 39 q = h 39 q := fun q hq9 => by rw [← hg, am_u_n (by omega)]; exact hr q hq9
      have k2 : h2 39 = mt_up (h 39) p k := funext fun q => by
        unfold mt_up
        by_cases z : q = p
        · rw [if_pos z, z, ← hg, am_u_s]
        · rw [if_neg z]; exact r2 q z
      have g1 : ∀ j, h2 38 j = h 38 j := fun j => f2 38 j (by simp <;> omega)
      have gg : ∀ y, y = 40 ∨ y = 51 ∨ y = 52 ∨ y = 53 → h2 y = h y := fun y hy => funext fun j => f2 y j (by simp <;> omega)
      have hA2 : md_A h2 := by unfold md_A; rw [g1, g1]; exact hA
      have hn2 : mt_ok (h2 38 1) (h2 38 2) (h2 40) := by rw [g1, g1, gg 40 (by omega)]; exact hnm
      have hO2 : md_O h2 := by unfold md_O; rw [g1, g1, gg 51 (by omega), gg 52 (by omega)]; exact hO
      refine am_iload_n (pc' := 37) dX8_kinds_36 rfl rfl rfl ?_
      refine am_aload_n (pc' := 38) dX8_kinds_37 rfl rfl rfl ?_
      refine am_callV0 (pc' := 41) (as := []) (ci := 7)  rfl dX8_kinds_38 rfl ok_X8_areSo ml_X8_246 im_X8_areSo se_X8_areSo rfl (Nat.le_of_ble_eq_true rfl) rfl (Nat.le_of_ble_eq_true rfl) (by first | assumption | exact ⟨by omega, by omega, rfl⟩) (t8_areSo hM hA2 hn2 hO2) (fun r_38 ρ_38 h_38 q_38 g_38 e_38 => ?_)
      obtain ⟨rfl, w1, w2⟩ := q_38
      rw [g1, g1, g1, k2, gg 40 (by omega), gg 51 (by omega), gg 52 (by omega), gg 53 (by omega)] at w2
      have wf : am_fr [39, 43, 44] h h_38 := am_fr_trans f2 (am_fr_sub w1 (by intro x hx; simp at hx ⊢; omega))
      have wr : ∀ q, q ≠ p → h_38 39 q = h 39 q := fun q hq9 => (w1 39 q (by simp <;> omega)).trans (r2 q hq9)
      unfold am_tf at w2
      rcases w2 with ⟨rfl, wA⟩ | ⟨rfl, wA⟩
      · refine am_if_eq (pc' := 44) (tgt := 51) dX8_kinds_41 rfl rfl (fun c_41 => ?_) (fun c_41 => ?_)
        · refine am_iconst (pc' := 52) dX8_kinds_51 rfl rfl ?_
          first | (exfalso; omega) | exact K52 _ _ (by omega) wf wr ⟨Int.natCast_nonneg _, by omega⟩ (st_add hS h0 wA) | exact K52 0 _ (by omega) wf wr (by omega) (by rw [st_or0 hSb.1]; exact st_skip hS wA) | fail
        · refine am_iconst (pc' := 45) dX8_kinds_44 rfl rfl ?_
          refine am_iload (pc' := 47) dX8_kinds_45 rfl rfl ?_
          have h2p : (2 : Nat) ^ k.toNat ≤ 32 := two5 (by omega)
          refine am_ishl1 (pc' := 48) dX8_kinds_47 rfl (by omega) (by omega) ?_
          refine am_goto (pc' := 52) dX8_kinds_48 rfl ?_
          first | (exfalso; omega) | exact K52 _ _ (by omega) wf wr ⟨Int.natCast_nonneg _, by omega⟩ (st_add hS h0 wA) | exact K52 0 _ (by omega) wf wr (by omega) (by rw [st_or0 hSb.1]; exact st_skip hS wA) | fail
      · refine am_if_eq (pc' := 44) (tgt := 51) dX8_kinds_41 rfl rfl (fun c_41 => ?_) (fun c_41 => ?_)
        · refine am_iconst (pc' := 52) dX8_kinds_51 rfl rfl ?_
          first | (exfalso; omega) | exact K52 _ _ (by omega) wf wr ⟨Int.natCast_nonneg _, by omega⟩ (st_add hS h0 wA) | exact K52 0 _ (by omega) wf wr (by omega) (by rw [st_or0 hSb.1]; exact st_skip hS wA) | fail
        · refine am_iconst (pc' := 45) dX8_kinds_44 rfl rfl ?_
          refine am_iload (pc' := 47) dX8_kinds_45 rfl rfl ?_
          have h2p : (2 : Nat) ^ k.toNat ≤ 32 := two5 (by omega)
          refine am_ishl1 (pc' := 48) dX8_kinds_47 rfl (by omega) (by omega) ?_
          refine am_goto (pc' := 52) dX8_kinds_48 rfl ?_
          first | (exfalso; omega) | exact K52 _ _ (by omega) wf wr ⟨Int.natCast_nonneg _, by omega⟩ (st_add hS h0 wA) | exact K52 0 _ (by omega) wf wr (by omega) (by rw [st_or0 hSb.1]; exact st_skip hS wA) | fail
theorem t8_kinds {ρ h : am_H} {p : Int} (hM : am_LM ρ) (hR : md_R h) (hO : md_O h) : am_CT mX8_kinds 0 0 [am_R 38, am_I p] ρ h (fun r ρ' h' => ρ' = ρ ∧ md_fr h h' ∧ ((¬ (0 ≤ p ∧ p < h 38 1) ∧ r = some (am_I (-1))) ∨ ((0 ≤ p ∧ p < h 38 1) ∧ ∃ S, r = some (am_I S) ∧ st_is 3 (fun k => md_so h (mt_up (h 39) p k) (h 40)) S))) := by
  have hn58 := hM.1
  have hP5 := (md_P5 hR).1
  have e3 := am_lm hM 38 4 39 (by decide)
  have l3 := am_lm hM 39 (-1) 5 (by decide)
  refine am_ct (ls := [some (am_R 38), some (am_I p), none, none, none]) ok_X8_kinds rfl (fun _ => Nat.le_of_ble_eq_true rfl) (fun _ => rfl) (by intro v hv; simpa using hv) ?_
  refine am_aload_n (pc' := 1) dX8_kinds_0 rfl rfl rfl ?_
  refine am_iload_n (pc' := 2) dX8_kinds_1 rfl rfl rfl ?_
  refine am_callVp (pc' := 5) (as := [_]) (ci := 7)  rfl dX8_kinds_2 rfl ok_X8_noPlace ml_X8_149 im_X8_noPlace se_X8_noPlace rfl (Nat.le_of_ble_eq_true rfl) rfl (Nat.le_of_ble_eq_true rfl) (by first | assumption | exact ⟨by omega, by omega, rfl⟩) (t8_noPlace hM hP5) ?_
  refine am_if_eq (pc' := 8) (tgt := 10) dX8_kinds_5 rfl rfl (fun c_5 => ?_) (fun c_5 => ?_)
  · simp only [am_z0, am_z1, ne_eq] at c_5
    obtain ⟨hA, hnm, hkd⟩ := md_RA hR (show h 38 1 ≠ 0 by omega)
    refine am_aload_n (pc' := 11) dX8_kinds_10 rfl rfl rfl ?_
    refine am_getRk (ki := 4) (pc' := 14) (k := 4) (ci := 7) rfl dX8_kinds_11 rfl fl_X8_7 (by first | assumption | exact ⟨by omega, by omega, rfl⟩) rfl (by assumption) (by omega) ?_
    refine am_iload_n (pc' := 15) dX8_kinds_14 rfl rfl rfl ?_
    refine am_iaload (pc' := 16) dX8_kinds_15 rfl (by first | assumption | exact ⟨by omega, by omega, rfl⟩) (by omega) (by omega) ?_
    refine am_istore_n (pc' := 17) (ls' := [_, _, _, _, _]) dX8_kinds_16 rfl rfl (Nat.le_of_ble_eq_true rfl) rfl rfl ?_
    refine am_iconst (pc' := 18) dX8_kinds_17 rfl rfl ?_
    refine am_istore_n (pc' := 19) (ls' := [_, _, _, _, _]) dX8_kinds_18 rfl rfl (Nat.le_of_ble_eq_true rfl) rfl rfl ?_
    refine am_iconst (pc' := 20) dX8_kinds_19 rfl rfl ?_
    refine am_istore (pc' := 22) (ls' := [_, _, _, _, _]) dX8_kinds_20 rfl (Nat.le_of_ble_eq_true rfl) rfl rfl ?_
    exact t8_kinds_l hM hA hnm hO (by omega) (fun h1 S a b => ⟨rfl, a, Or.inr ⟨by omega, S, rfl, b⟩⟩) 4 0 0 h (by omega) (by omega) (by omega) am_fr_refl (fun _ _ => rfl) (st_0 _)
  · simp only [am_z0, am_z1, ne_eq] at c_5
    refine am_iconst (pc' := 9) dX8_kinds_8 rfl rfl ?_
    refine am_reti dX8_kinds_9 rfl ?_
    exact ⟨rfl, md_fr_r, Or.inl ⟨by omega, rfl⟩⟩
