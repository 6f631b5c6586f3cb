/-! sets of places -/
section AMR
variable {M : am_M} {bc bs pc pc' : Nat} {ls : List (Option am_V)} {st : List am_V} {ρ h : am_H} {Q : am_Q}
theorem am_iushr {a b : Int} (hd : decode M.2.1 pc = .ok (.iushr, 1)) (hp : pc + 1 = pc') (k : am_WP M bc bs pc' ls (am_I ((Int32.ofInt a).toUInt32 >>> ((Int32.ofInt b).toUInt32 &&& Int32.toUInt32 31)).toInt32.toInt :: st) ρ h Q) : am_WP M bc bs pc ls (am_I b :: am_I a :: st) ρ h Q := by
  subst hp
  exact am_stk (fun p l e R s m args below meth c H locs cells slots Z lc ad hx hb _ _ os ol hl k => lv_iushr hx hb hd (Int32.ofInt_toInt _).symm k) (fun os _ => am_okI1 (am_okw _) (am_okt (am_okt os))) k
end AMR
def bct (x : Int) : Int := x % 2 + x / 2 % 2 + x / 4 % 2 + x / 8 % 2 + x / 16 % 2
def bc_1 (x : Int) : Int := am_w (x - (Int32.ofInt ((Int32.ofInt x).toUInt32 >>> ((Int32.ofInt 1).toUInt32 &&& Int32.toUInt32 31)).toInt32.toInt &&& Int32.ofInt 1431655765).toInt)
def bc_2 (x : Int) : Int := am_w ((Int32.ofInt x &&& Int32.ofInt 858993459).toInt + (Int32.ofInt ((Int32.ofInt x).toUInt32 >>> ((Int32.ofInt 2).toUInt32 &&& Int32.toUInt32 31)).toInt32.toInt &&& Int32.ofInt 858993459).toInt)
def bc_3 (x : Int) : Int := (Int32.ofInt (am_w (x + ((Int32.ofInt x).toUInt32 >>> ((Int32.ofInt 4).toUInt32 &&& Int32.toUInt32 31)).toInt32.toInt)) &&& Int32.ofInt 252645135).toInt
def bc_4 (x : Int) : Int := am_w (x + ((Int32.ofInt x).toUInt32 >>> ((Int32.ofInt 8).toUInt32 &&& Int32.toUInt32 31)).toInt32.toInt)
def bc_5 (x : Int) : Int := am_w (x + ((Int32.ofInt x).toUInt32 >>> ((Int32.ofInt 16).toUInt32 &&& Int32.toUInt32 31)).toInt32.toInt)
def bc_6 (x : Int) : Int := (Int32.ofInt x &&& Int32.ofInt 63).toInt
theorem bct_eq : ∀ n : Fin 32, bc_6 (bc_5 (bc_4 (bc_3 (bc_2 (bc_1 ((n : Nat) : Int)))))) = bct ((n : Nat) : Int) := by decide +kernel
theorem t_bitCount {ρ h : am_H} {x : Int} (hx : 0 ≤ x ∧ x < 32) : am_CT mJ6_bitCount_0f7a4 0 0 [am_I x] ρ h (am_P (am_I (bct x)) ρ h) := by
  refine am_ct (ls := [some (am_I x)]) ok_J6_bitCount_0f7a4 rfl (fun _ => Nat.le_of_ble_eq_true rfl) (fun _ => rfl) (by intro v hv; simpa using hv) ?_
  refine am_iload_n (pc' := 1) dJ6_bitCount_0f7a4_0 rfl rfl rfl ?_
  refine am_iload_n (pc' := 2) dJ6_bitCount_0f7a4_1 rfl rfl rfl ?_
  refine am_iconst (pc' := 3) dJ6_bitCount_0f7a4_2 rfl rfl ?_
  refine am_iushr (pc' := 4) dJ6_bitCount_0f7a4_3 rfl ?_
  refine am_ldcw (pc' := 7) (x := 1431655765) dJ6_bitCount_0f7a4_4 rfl kc_J6_265 rfl rfl ?_
  refine am_iand (pc' := 8) dJ6_bitCount_0f7a4_7 rfl ?_
  refine am_isubw (pc' := 9) dJ6_bitCount_0f7a4_8 rfl ?_
  refine am_istore_n (pc' := 10) (ls' := [_]) dJ6_bitCount_0f7a4_9 rfl rfl (Nat.le_of_ble_eq_true rfl) rfl rfl ?_
  refine am_iload_n (pc' := 11) dJ6_bitCount_0f7a4_10 rfl rfl rfl ?_
  refine am_ldcw (pc' := 14) (x := 858993459) dJ6_bitCount_0f7a4_11 rfl kc_J6_266 rfl rfl ?_
  refine am_iand (pc' := 15) dJ6_bitCount_0f7a4_14 rfl ?_
  refine am_iload_n (pc' := 16) dJ6_bitCount_0f7a4_15 rfl rfl rfl ?_
  refine am_iconst (pc' := 17) dJ6_bitCount_0f7a4_16 rfl rfl ?_
  refine am_iushr (pc' := 18) dJ6_bitCount_0f7a4_17 rfl ?_
  refine am_ldcw (pc' := 21) (x := 858993459) dJ6_bitCount_0f7a4_18 rfl kc_J6_266 rfl rfl ?_
  refine am_iand (pc' := 22) dJ6_bitCount_0f7a4_21 rfl ?_
  refine am_iaddw (pc' := 23) dJ6_bitCount_0f7a4_22 rfl ?_
  refine am_istore_n (pc' := 24) (ls' := [_]) dJ6_bitCount_0f7a4_23 rfl rfl (Nat.le_of_ble_eq_true rfl) rfl rfl ?_
  refine am_iload_n (pc' := 25) dJ6_bitCount_0f7a4_24 rfl rfl rfl ?_
  refine am_iload_n (pc' := 26) dJ6_bitCount_0f7a4_25 rfl rfl rfl ?_
  refine am_iconst (pc' := 27) dJ6_bitCount_0f7a4_26 rfl rfl ?_
  refine am_iushr (pc' := 28) dJ6_bitCount_0f7a4_27 rfl ?_
  refine am_iaddw (pc' := 29) dJ6_bitCount_0f7a4_28 rfl ?_
  refine am_ldcw (pc' := 32) (x := 252645135) dJ6_bitCount_0f7a4_29 rfl kc_J6_267 rfl rfl ?_
  refine am_iand (pc' := 33) dJ6_bitCount_0f7a4_32 rfl ?_
  refine am_istore_n (pc' := 34) (ls' := [_]) dJ6_bitCount_0f7a4_33 rfl rfl (Nat.le_of_ble_eq_true rfl) rfl rfl ?_
  refine am_iload_n (pc' := 35) dJ6_bitCount_0f7a4_34 rfl rfl rfl ?_
  refine am_iload_n (pc' := 36) dJ6_bitCount_0f7a4_35 rfl rfl rfl ?_
  refine am_bipush (pc' := 38) dJ6_bitCount_0f7a4_36 rfl rfl (by decide) ?_
  refine am_iushr (pc' := 39) dJ6_bitCount_0f7a4_38 rfl ?_
  refine am_iaddw (pc' := 40) dJ6_bitCount_0f7a4_39 rfl ?_
  refine am_istore_n (pc' := 41) (ls' := [_]) dJ6_bitCount_0f7a4_40 rfl rfl (Nat.le_of_ble_eq_true rfl) rfl rfl ?_
  refine am_iload_n (pc' := 42) dJ6_bitCount_0f7a4_41 rfl rfl rfl ?_
  refine am_iload_n (pc' := 43) dJ6_bitCount_0f7a4_42 rfl rfl rfl ?_
  refine am_bipush (pc' := 45) dJ6_bitCount_0f7a4_43 rfl rfl (by decide) ?_
  refine am_iushr (pc' := 46) dJ6_bitCount_0f7a4_45 rfl ?_
  refine am_iaddw (pc' := 47) dJ6_bitCount_0f7a4_46 rfl ?_
  refine am_istore_n (pc' := 48) (ls' := [_]) dJ6_bitCount_0f7a4_47 rfl rfl (Nat.le_of_ble_eq_true rfl) rfl rfl ?_
  refine am_iload_n (pc' := 49) dJ6_bitCount_0f7a4_48 rfl rfl rfl ?_
  refine am_bipush (pc' := 51) dJ6_bitCount_0f7a4_49 rfl rfl (by decide) ?_
  refine am_iand (pc' := 52) dJ6_bitCount_0f7a4_51 rfl ?_
  refine am_reti dJ6_bitCount_0f7a4_52 rfl ?_
  refine ⟨?_, rfl, rfl⟩
  obtain ⟨n, rfl⟩ := Int.eq_ofNat_of_zero_le hx.1
  have hn : n < 32 := by omega
  exact congrArg (fun z => some (am_I z)) (bct_eq ⟨n, hn⟩)
/-- the set of places where two rows are unlike -/
def ul_is (P : Int) (f g : Int → Int) (S : Int) : Prop := 0 ≤ S ∧ S < 32 ∧ ∀ i : Nat, S.toNat.testBit i = decide ((i : Int) < P ∧ f i ≠ g i)
theorem ul_uniq {P S T : Int} {f g : Int → Int} (h1 : ul_is P f g S) (h2 : ul_is P f g T) : S = T := by
  have e : S.toNat = T.toNat := Nat.eq_of_testBit_eq (fun i => by rw [h1.2.2 i, h2.2.2 i])
  have := h1.1
  have := h2.1
  omega
theorem ul_eq {P S : Int} {f g f' g' : Int → Int} (hf : mt_eq P f f') (hg : mt_eq P g g') (h : ul_is P f g S) : ul_is P f' g' S := by
  refine ⟨h.1, h.2.1, fun i => ?_⟩
  rw [h.2.2 i]
  by_cases z : (i : Int) < P
  · rw [hf i (by omega) z, hg i (by omega) z]
  · simp [z]
theorem ul_lt {P S : Int} (hP : 0 ≤ P ∧ P ≤ 5) {f g : Int → Int} (h : ∀ i : Nat, S.toNat.testBit i = decide ((i : Int) < P ∧ f i ≠ g i)) : S.toNat < 2 ^ P.toNat := by
  refine Nat.lt_pow_two_of_testBit _ (fun i hi => ?_)
  rw [h i]
  simp
  intro z
  omega
theorem two5 {n : Nat} (h : n ≤ 5) : 2 ^ n ≤ 32 := by
  have := Nat.pow_le_pow_right (n := 2) (by decide) h
  simpa using this
theorem t_unlike_l {ρ h : am_H} {A L P B a b : Int} {kd : Int → Int} {Q : am_Q} (hQ : ar_Q ρ h A L P B kd) (ha : 0 ≤ a ∧ a ≤ 100000) (hb : 0 ≤ b ∧ b ≤ 100000) (hq : ∀ S, ul_is P (dg P B a) (dg P B b) S → Q (some (am_I S)) ρ h) :
    ∀ (n : Nat) (p S : Int), p < n → -1 ≤ p → p < P → 0 ≤ S → (∀ i : Nat, S.toNat.testBit i = decide (p < (i : Int) ∧ (i : Int) < P ∧ dg P B a i ≠ dg P B b i)) → am_WP mX0_unlikePlaces 0 0 32 [some (am_R 19), some (am_I a), some (am_I b), some (am_I (dv B a (P - 1 - p).toNat)), some (am_I (dv B b (P - 1 - p).toNat)), some (am_I S), some (am_I p)] [] ρ h Q := by
  obtain ⟨hC, hD, ⟨⟨c1, c2, c3, c4⟩, _⟩, hP, hB⟩ := hQ
  obtain ⟨k0, k1, k2, k3, k4, k5, ⟨e1, e2, e3, e4, e5⟩, ⟨l1, l2, l3, l4, l5⟩, hA, hL0, hL7⟩ := am_DAx hD
  have hn58 := hC.1
  have ep := am_lc hC 19 0 20 (by decide)
  have fin : ∀ p S, p = -1 → 0 ≤ S → (∀ i : Nat, S.toNat.testBit i = decide (p < (i : Int) ∧ (i : Int) < P ∧ dg P B a i ≠ dg P B b i)) → Q (some (am_I S)) ρ h := fun p S hp hS h9 => by
    have h8 : ∀ i : Nat, S.toNat.testBit i = decide ((i : Int) < P ∧ dg P B a i ≠ dg P B b i) := fun i => by rw [h9 i, hp]; simp; intro _ _; omega
    have h7 := ul_lt (by omega) h8
    have h6 := two5 (n := P.toNat) (by omega)
    exact hq S ⟨hS, by omega, h8⟩
  intro n
  induction n with
  | zero =>
    intro p S hk h0 h1 hS hall
    refine am_iload (pc' := 34) dX0_unlikePlaces_32 rfl rfl ?_
    refine am_if_lt (pc' := 37) (tgt := 96) dX0_unlikePlaces_34 rfl rfl (fun c_34 => ?_) (fun c_34 => ?_)
    · refine am_iload (pc' := 98) dX0_unlikePlaces_96 rfl rfl ?_
      refine am_reti dX0_unlikePlaces_98 rfl ?_
      exact fin p S (by omega) hS hall
    · exfalso; omega
  | succ n ih =>
    intro p S hk h0 h1 hS hall
    have hd1 := dv_nn hB.1 ha.1 (P - 1 - p).toNat
    have hd2 := dv_nn hB.1 hb.1 (P - 1 - p).toNat
    have hSl : S < 64 := by
      have : S.toNat < 2 ^ 5 := Nat.lt_pow_two_of_testBit _ (fun i hi => by rw [hall i]; simp; intro _ _; omega)
      have h32 : (2 : Nat) ^ 5 = 32 := rfl
      omega
    have hdv : ∀ c, dv B c (P - 1 - p).toNat / B = dv B c (P - 1 - (p + -1)).toNat := fun c => by
      by_cases z : 0 ≤ p
      · rw [show (P - 1 - (p + -1)).toNat = (P - 1 - p).toNat + 1 by omega]; rfl
      · rw [show (P - 1 - (p + -1)).toNat = (P - 1 - p).toNat + 1 by omega]; rfl
    have K68 : ∀ T, 0 ≤ p → 0 ≤ T → (∀ i : Nat, T.toNat.testBit i = decide (p + -1 < (i : Int) ∧ (i : Int) < P ∧ dg P B a i ≠ dg P B b i)) → am_WP mX0_unlikePlaces 0 0 68 [some (am_R 19), some (am_I a), some (am_I b), some (am_I (dv B a (P - 1 - p).toNat)), some (am_I (dv B b (P - 1 - p).toNat)), some (am_I T), some (am_I p)] [] ρ h Q := by
      intro T p0 T0 hT
      refine am_iload_n (pc' := 69) dX0_unlikePlaces_68 rfl rfl rfl ?_
      refine am_aload_n (pc' := 70) dX0_unlikePlaces_69 rfl rfl rfl ?_
      refine am_getRk (ki := 0) (pc' := 73) (k := 0) (ci := 0) rfl dX0_unlikePlaces_70 rfl fl_X0_12 (by first | assumption | exact ⟨by omega, by omega, rfl⟩) rfl (by assumption) (by omega) ?_
      refine am_getIk (ki := 0) (pc' := 76) (k := 0) (ci := 3) rfl dX0_unlikePlaces_73 rfl fl_X0_70 (by first | assumption | exact ⟨by omega, by omega, rfl⟩) rfl ?_
      rw [c1]
      refine am_idiv (pc' := 77) dX0_unlikePlaces_76 rfl (by omega) (by omega) ?_
      refine am_istore_n (pc' := 78) (ls' := [_, _, _, _, _, _, _]) dX0_unlikePlaces_77 rfl rfl (Nat.le_of_ble_eq_true rfl) rfl rfl ?_
      refine am_iload (pc' := 80) dX0_unlikePlaces_78 rfl rfl ?_
      refine am_aload_n (pc' := 81) dX0_unlikePlaces_80 rfl rfl rfl ?_
      refine am_getRk (ki := 0) (pc' := 84) (k := 0) (ci := 0) rfl dX0_unlikePlaces_81 rfl fl_X0_12 (by first | assumption | exact ⟨by omega, by omega, rfl⟩) rfl (by assumption) (by omega) ?_
      refine am_getIk (ki := 0) (pc' := 87) (k := 0) (ci := 3) rfl dX0_unlikePlaces_84 rfl fl_X0_70 (by first | assumption | exact ⟨by omega, by omega, rfl⟩) rfl ?_
      rw [c1]
      refine am_idiv (pc' := 88) dX0_unlikePlaces_87 rfl (by omega) (by omega) ?_
      refine am_istore (pc' := 90) (ls' := [_, _, _, _, _, _, _]) dX0_unlikePlaces_88 rfl (Nat.le_of_ble_eq_true rfl) rfl rfl ?_
      refine am_iinc (pc' := 93) (ls' := [_, _, _, _, _, _, _]) dX0_unlikePlaces_90 rfl rfl ⟨by omega, by omega⟩ (Nat.le_of_ble_eq_true rfl) rfl rfl ?_
      refine am_goto (pc' := 32) dX0_unlikePlaces_93 rfl ?_
      rw [hdv, hdv]; exact ih _ _ (by omega) (by omega) (by omega) T0 hT
    refine am_iload (pc' := 34) dX0_unlikePlaces_32 rfl rfl ?_
    refine am_if_lt (pc' := 37) (tgt := 96) dX0_unlikePlaces_34 rfl rfl (fun c_34 => ?_) (fun c_34 => ?_)
    · refine am_iload (pc' := 98) dX0_unlikePlaces_96 rfl rfl ?_
      refine am_reti dX0_unlikePlaces_98 rfl ?_
      exact fin p S (by omega) hS hall
    · refine am_iload_n (pc' := 38) dX0_unlikePlaces_37 rfl rfl rfl ?_
      refine am_aload_n (pc' := 39) dX0_unlikePlaces_38 rfl rfl rfl ?_
      refine am_getRk (ki := 0) (pc' := 42) (k := 0) (ci := 0) rfl dX0_unlikePlaces_39 rfl fl_X0_12 (by first | assumption | exact ⟨by omega, by omega, rfl⟩) rfl (by assumption) (by omega) ?_
      refine am_getIk (ki := 0) (pc' := 45) (k := 0) (ci := 3) rfl dX0_unlikePlaces_42 rfl fl_X0_70 (by first | assumption | exact ⟨by omega, by omega, rfl⟩) rfl ?_
      rw [c1]
      refine am_irem (pc' := 46) dX0_unlikePlaces_45 rfl (by omega) (by omega) ?_
      refine am_iload (pc' := 48) dX0_unlikePlaces_46 rfl rfl ?_
      refine am_aload_n (pc' := 49) dX0_unlikePlaces_48 rfl rfl rfl ?_
      refine am_getRk (ki := 0) (pc' := 52) (k := 0) (ci := 0) rfl dX0_unlikePlaces_49 rfl fl_X0_12 (by first | assumption | exact ⟨by omega, by omega, rfl⟩) rfl (by assumption) (by omega) ?_
      refine am_getIk (ki := 0) (pc' := 55) (k := 0) (ci := 3) rfl dX0_unlikePlaces_52 rfl fl_X0_70 (by first | assumption | exact ⟨by omega, by omega, rfl⟩) rfl ?_
      rw [c1]
      refine am_irem (pc' := 56) dX0_unlikePlaces_55 rfl (by omega) (by omega) ?_
      refine am_icmp_eq (pc' := 59) (tgt := 68) dX0_unlikePlaces_56 rfl rfl (fun c_56 => ?_) (fun c_56 => ?_)
      · refine K68 S (by omega) hS (fun i => ?_)
        rw [hall i]
        by_cases z : (i : Int) = p
        · have e9 : dg P B a i = dg P B b i := by rw [z]; exact c_56
          simp [e9]
        · congr 1; apply propext; constructor <;> (rintro ⟨y1, y2, y3⟩; exact ⟨by omega, y2, y3⟩)
      · refine am_iload (pc' := 61) dX0_unlikePlaces_59 rfl rfl ?_
        refine am_iconst (pc' := 62) dX0_unlikePlaces_61 rfl rfl ?_
        refine am_iload (pc' := 64) dX0_unlikePlaces_62 rfl rfl ?_
        refine am_ishl1 (pc' := 65) dX0_unlikePlaces_64 rfl (by omega) (by omega) ?_
        have h2p : (2 : Nat) ^ p.toNat ≤ 32 := two5 (by omega)
        refine am_ior (pc' := 66) dX0_unlikePlaces_65 rfl ⟨by omega, by omega⟩ ⟨Int.natCast_nonneg _, by omega⟩ ?_
        refine am_istore (pc' := 68) (ls' := [_, _, _, _, _, _, _]) dX0_unlikePlaces_66 rfl (Nat.le_of_ble_eq_true rfl) rfl rfl ?_
        refine K68 _ (by omega) (Int.natCast_nonneg _) (fun i => ?_)
        rw [Int.toNat_natCast, Nat.testBit_or, hall i, Int.toNat_natCast, Nat.testBit_two_pow]
        by_cases z : (i : Int) = p
        · have e9 : dg P B a i ≠ dg P B b i := by rw [z]; exact c_56
          have e8 : p.toNat = i := by omega
          simp [e8, e9]; omega
        · have e8 : p.toNat ≠ i := by omega
          simp only [e8, decide_false, Bool.or_false]
          congr 1; apply propext; constructor <;> (rintro ⟨y1, y2, y3⟩; exact ⟨by omega, y2, y3⟩)
theorem t_unlike {ρ h : am_H} {A L P B a b : Int} {kd : Int → Int} (hQ : ar_Q ρ h A L P B kd) (ha : 0 ≤ a ∧ a ≤ 100000) (hb : 0 ≤ b ∧ b ≤ 100000) : am_CT mX0_unlikePlaces 0 0 [am_R 19, am_I a, am_I b] ρ h (fun r ρ' h' => ρ' = ρ ∧ h' = h ∧ ∃ S, r = some (am_I S) ∧ ul_is P (dg P B a) (dg P B b) S) := by
  obtain ⟨hC, hD, ⟨⟨c1, c2, c3, c4⟩, _⟩, hP, hB⟩ := id hQ
  obtain ⟨k0, k1, k2, k3, k4, k5, ⟨e1, e2, e3, e4, e5⟩, ⟨l1, l2, l3, l4, l5⟩, hA, hL0, hL7⟩ := am_DAx hD
  have hn58 := hC.1
  have ep := am_lc hC 19 0 20 (by decide)
  have key := t_unlike_l (Q := fun r ρ' h' => ρ' = ρ ∧ h' = h ∧ ∃ S, r = some (am_I S) ∧ ul_is P (dg P B a) (dg P B b) S) hQ ha hb (fun S hS => ⟨rfl, rfl, S, rfl, hS⟩) P.toNat (P - 1) 0 (by omega) (by omega) (by omega) (Int.le_refl 0) (fun i => by rw [show (0 : Int).toNat = 0 from rfl, Nat.zero_testBit]; simp; intro _ _; omega)
  rw [show (P - 1 - (P - 1)).toNat = 0 by omega] at key
  refine am_ct (ls := [some (am_R 19), some (am_I a), some (am_I b), none, none, none, none]) ok_X0_unlikePlaces rfl (fun _ => Nat.le_of_ble_eq_true rfl) (fun _ => rfl) (by intro v hv; simpa using hv) ?_
  refine am_aload_n (pc' := 1) dX0_unlikePlaces_0 rfl rfl rfl ?_
  refine am_getRk (ki := 0) (pc' := 4) (k := 0) (ci := 0) rfl dX0_unlikePlaces_1 rfl fl_X0_12 (by first | assumption | exact ⟨by omega, by omega, rfl⟩) rfl (by assumption) (by omega) ?_
  refine am_getIk (ki := 0) (pc' := 7) (k := 0) (ci := 3) rfl dX0_unlikePlaces_4 rfl fl_X0_70 (by first | assumption | exact ⟨by omega, by omega, rfl⟩) rfl ?_
  refine am_iconst (pc' := 8) dX0_unlikePlaces_7 rfl rfl ?_
  refine am_icmp_ge (pc' := 11) (tgt := 13) dX0_unlikePlaces_8 rfl rfl (fun c_8 => ?_) (fun c_8 => ?_)
  · refine am_iload_n (pc' := 14) dX0_unlikePlaces_13 rfl rfl rfl ?_
    refine am_istore_n (pc' := 15) (ls' := [_, _, _, _, _, _, _]) dX0_unlikePlaces_14 rfl rfl (Nat.le_of_ble_eq_true rfl) rfl rfl ?_
    refine am_iload_n (pc' := 16) dX0_unlikePlaces_15 rfl rfl rfl ?_
    refine am_istore (pc' := 18) (ls' := [_, _, _, _, _, _, _]) dX0_unlikePlaces_16 rfl (Nat.le_of_ble_eq_true rfl) rfl rfl ?_
    refine am_iconst (pc' := 19) dX0_unlikePlaces_18 rfl rfl ?_
    refine am_istore (pc' := 21) (ls' := [_, _, _, _, _, _, _]) dX0_unlikePlaces_19 rfl (Nat.le_of_ble_eq_true rfl) rfl rfl ?_
    refine am_aload_n (pc' := 22) dX0_unlikePlaces_21 rfl rfl rfl ?_
    refine am_getRk (ki := 0) (pc' := 25) (k := 0) (ci := 0) rfl dX0_unlikePlaces_22 rfl fl_X0_12 (by first | assumption | exact ⟨by omega, by omega, rfl⟩) rfl (by assumption) (by omega) ?_
    refine am_getIk (ki := 1) (pc' := 28) (k := 1) (ci := 3) rfl dX0_unlikePlaces_25 rfl fl_X0_67 (by first | assumption | exact ⟨by omega, by omega, rfl⟩) rfl ?_
    refine am_iconst (pc' := 29) dX0_unlikePlaces_28 rfl rfl ?_
    refine am_isub (pc' := 30) dX0_unlikePlaces_29 rfl ⟨by omega, by omega⟩ ?_
    refine am_istore (pc' := 32) (ls' := [_, _, _, _, _, _, _]) dX0_unlikePlaces_30 rfl (Nat.le_of_ble_eq_true rfl) rfl rfl ?_
    rw [c2]; exact key
  · exfalso; omega
def fw_b (S T : Int) : Prop := bct S < bct T ∨ (bct S = bct T ∧ S < T)
/-- the least set of places that must be written anew -/
def fw_is (nx : Int → Int) (N P B : Int) (f : Int → Int) (S : Int) : Prop := (∃ c, 0 ≤ c ∧ c < N ∧ gr_out nx c ∧ ul_is P f (dg P B c) S) ∧ ∀ d T, 0 ≤ d → d < N → gr_out nx d → ul_is P f (dg P B d) T → ¬ fw_b T S
theorem fw_uniq {nx : Int → Int} {N P B S T : Int} {f : Int → Int} (h1 : fw_is nx N P B f S) (h2 : fw_is nx N P B f T) : S = T := by
  obtain ⟨⟨c, c0, c1, c2, c3⟩, a2⟩ := h1
  obtain ⟨⟨d, d0, d1, d2, d3⟩, b2⟩ := h2
  have x := a2 d T d0 d1 d2 d3
  have y := b2 c S c0 c1 c2 c3
  unfold fw_b at x y
  omega
theorem bct_in : ∀ n : Fin 32, 0 ≤ bct ((n : Nat) : Int) ∧ bct ((n : Nat) : Int) ≤ 5 := by decide +kernel
theorem bct_b {S : Int} (h0 : 0 ≤ S) (h1 : S < 32) : 0 ≤ bct S ∧ bct S ≤ 5 := by
  have := bct_in ⟨S.toNat, by omega⟩
  simpa [Int.toNat_of_nonneg h0] using this
theorem fw_full0 : ∀ P : Fin 6, ∀ n : Fin 32, (n : Nat) < 2 ^ (P : Nat) → ¬ (bct ((n : Nat) : Int) < bct (((2 ^ (P : Nat) : Nat) : Int) - 1) ∨ (bct ((n : Nat) : Int) = bct (((2 ^ (P : Nat) : Nat) : Int) - 1) ∧ ((n : Nat) : Int) < ((2 ^ (P : Nat) : Nat) : Int) - 1)) → ((n : Nat) : Int) = ((2 ^ (P : Nat) : Nat) : Int) - 1 := by decide +kernel
theorem t_least_l {ρ h : am_H} {A L P B a : Int} {kd : Int → Int} {Q : am_Q} (hQ : ar_Q ρ h A L P B kd) (ha : 0 ≤ a ∧ a < h 19 7) (hq : ∀ S, fw_is (nxt P B kd) (h 19 7) P B (dg P B a) S → 0 ≤ S → S < 32 → Q (some (am_I S)) ρ h) :
    ∀ (n : Nat) (r S : Int) (v w : Option am_V), (h 19 7 - r).toNat < n → 0 ≤ r → r ≤ h 19 7 → 0 ≤ S → S < 32 → (r = 0 → S = ((2 ^ P.toNat : Nat) : Int) - 1) → (0 < r → ∃ c, 0 ≤ c ∧ c < h 19 7 ∧ gr_out (nxt P B kd) c ∧ ul_is P (dg P B a) (dg P B c) S) → (∀ d T, 0 ≤ d → d < r → gr_out (nxt P B kd) d → ul_is P (dg P B a) (dg P B d) T → ¬ fw_b T S) →
      am_WP mX0_leastSetToGoOut 0 0 14 [some (am_R 19), some (am_I a), some (am_I S), some (am_I r), v, w] [] ρ h Q := by
  have hN := ar_QN hQ
  obtain ⟨hC, hD, ⟨⟨c1, c2, c3, c4⟩, d1, d2, _⟩, hP, hB⟩ := id hQ
  obtain ⟨k0, k1, k2, k3, k4, k5, ⟨e1, e2, e3, e4, e5⟩, ⟨l1, l2, l3, l4, l5⟩, hA, hL0, hL7⟩ := am_DAx hD
  have hn58 := hC.1
  have h00 : nxt P B kd 0 = 0 := nxt_0 hB.1
  intro n
  induction n with
  | zero => intro r S v w hk; omega
  | succ n ih =>
    intro r S v w hk h0 h1 S0 S1 hz
    have mm : r < h 19 7 → (h 19 7 - (r + 1)).toNat < n ∧ 0 ≤ r + 1 ∧ r + 1 ≤ h 19 7 ∧ ¬ r + 1 = 0 := fun z => by omega
    have mp : ¬ r = 0 → 0 < r := fun z => by omega
    have md : ∀ d, d < r + 1 → ¬ d = r → d < r := fun d z y => by omega
    intro hex hall
    have K69 : ∀ U v w, r < h 19 7 → 0 ≤ U → U < 32 → (∃ c, 0 ≤ c ∧ c < h 19 7 ∧ gr_out (nxt P B kd) c ∧ ul_is P (dg P B a) (dg P B c) U) → (∀ d T, 0 ≤ d → d < r + 1 → gr_out (nxt P B kd) d → ul_is P (dg P B a) (dg P B d) T → ¬ fw_b T U) → am_WP mX0_leastSetToGoOut 0 0 69 [some (am_R 19), some (am_I a), some (am_I U), some (am_I r), v, w] [] ρ h Q := by
      intro U v w hr U0 U1
      obtain ⟨m1, m2, m3, m4⟩ := mm hr
      intro hU hU2
      refine am_iinc (pc' := 72) (ls' := [_, _, _, _, _, _]) dX0_leastSetToGoOut_69 rfl rfl ⟨by omega, by omega⟩ (Nat.le_of_ble_eq_true rfl) rfl rfl ?_
      refine am_goto (pc' := 14) dX0_leastSetToGoOut_72 rfl ?_
      exact ih (r + 1) U v w m1 m2 m3 U0 U1 (fun z => absurd z m4) (fun _ => hU) hU2
    have hbS := bct_b S0 S1
    have hrt : r < h 19 7 → (gr_out (nxt P B kd) r ↔ h (A + 3) r = 0) := fun z => gr_out_rt h00 (d2 r h0 z).2
    have hskip : ∀ v w, r < h 19 7 → ¬ gr_out (nxt P B kd) r → am_WP mX0_leastSetToGoOut 0 0 69 [some (am_R 19), some (am_I a), some (am_I S), some (am_I r), v, w] [] ρ h Q := fun v w hr hno => by
      have hr0 : r ≠ 0 := fun z => hno (by rw [z]; exact ⟨0, rfl⟩)
      refine K69 S v w hr S0 S1 (hex (mp hr0)) (fun d T z0 z1 z2 z3 => ?_)
      by_cases z : d = r
      · exact absurd (z ▸ z2) hno
      · exact hall d T z0 (md d z1 z) z2 z3
    have hbet : ∀ T v w, r < h 19 7 → gr_out (nxt P B kd) r → ul_is P (dg P B a) (dg P B r) T → fw_b T S → am_WP mX0_leastSetToGoOut 0 0 69 [some (am_R 19), some (am_I a), some (am_I T), some (am_I r), v, w] [] ρ h Q := fun T v w hr ho hT hb => by
      refine K69 T v w hr hT.1 hT.2.1 ⟨r, h0, hr, ho, hT⟩ (fun d U z0 z1 z2 z3 => ?_)
      by_cases z : d = r
      · have := ul_uniq hT (z ▸ z3)
        rw [← this]
        unfold fw_b; omega
      · have := hall d U z0 (md d z1 z) z2 z3
        unfold fw_b at this hb ⊢
        omega
    have hwor : ∀ T v w, r < h 19 7 → gr_out (nxt P B kd) r → ul_is P (dg P B a) (dg P B r) T → ¬ fw_b T S → am_WP mX0_leastSetToGoOut 0 0 69 [some (am_R 19), some (am_I a), some (am_I S), some (am_I r), v, w] [] ρ h Q := fun T v w hr ho hT hb => by
      refine K69 S v w hr S0 S1 ?_ (fun d U z0 z1 z2 z3 => ?_)
      · by_cases z : 0 < r
        · exact hex z
        · have hS := hz (by omega)
          have hlt := ul_lt (by omega) hT.2.2
          have key := fw_full0 ⟨P.toNat, by omega⟩ ⟨T.toNat, by have := hT.2.1; have := hT.1; omega⟩ hlt
          simp only [Int.toNat_of_nonneg hT.1] at key
          rw [← hS] at key
          have hTS := key hb
          exact ⟨r, h0, hr, ho, hTS ▸ hT⟩
      · by_cases z : d = r
        · have := ul_uniq hT (z ▸ z3)
          rw [← this]; exact hb
        · exact hall d U z0 (md d z1 z) z2 z3
    refine am_iload_n (pc' := 15) dX0_leastSetToGoOut_14 rfl rfl rfl ?_
    refine am_aload_n (pc' := 16) dX0_leastSetToGoOut_15 rfl rfl rfl ?_
    refine am_getIk (ki := 7) (pc' := 19) (k := 7) (ci := 0) rfl dX0_leastSetToGoOut_16 rfl fl_X0_38 (by first | assumption | exact ⟨by omega, by omega, rfl⟩) rfl ?_
    refine am_icmp_ge (pc' := 22) (tgt := 75) dX0_leastSetToGoOut_19 rfl rfl (fun c_19 => ?_) (fun c_19 => ?_)
    · refine am_iload_n (pc' := 76) dX0_leastSetToGoOut_75 rfl rfl rfl ?_
      refine am_reti dX0_leastSetToGoOut_76 rfl ?_
      refine hq S ⟨hex (by omega), fun d T z0 z1 z2 z3 => hall d T z0 (by omega) z2 z3⟩ S0 S1
    · refine am_aload_n (pc' := 23) dX0_leastSetToGoOut_22 rfl rfl rfl ?_
      refine am_iload_n (pc' := 24) dX0_leastSetToGoOut_23 rfl rfl rfl ?_
      refine am_callVp (pc' := 27) (as := [_]) (ci := 0)  rfl dX0_leastSetToGoOut_24 rfl ok_X0_goesOut ml_X0_122 im_X0_goesOut se_X0_goesOut rfl (Nat.le_of_ble_eq_true rfl) rfl (Nat.le_of_ble_eq_true rfl) (by first | assumption | exact ⟨by omega, by omega, rfl⟩) (t_goesOut hD hN.2.2.1 h0 (by omega)) ?_
      refine am_if_eq (pc' := 30) (tgt := 69) dX0_leastSetToGoOut_27 rfl rfl (fun c_27 => ?_) (fun c_27 => ?_)
      · simp only [am_z0, am_z1, ne_eq] at c_27
        exact hskip _ _ (by omega) (fun z => c_27 ((hrt (by omega)).mp z))
      · simp only [am_z0, am_z1, ne_eq] at c_27
        have ho := (hrt (by omega)).mpr c_27
        refine am_aload_n (pc' := 31) dX0_leastSetToGoOut_30 rfl rfl rfl ?_
        refine am_iload_n (pc' := 32) dX0_leastSetToGoOut_31 rfl rfl rfl ?_
        refine am_iload_n (pc' := 33) dX0_leastSetToGoOut_32 rfl rfl rfl ?_
        refine am_callV0 (pc' := 36) (as := [_, _]) (ci := 0)  rfl dX0_leastSetToGoOut_33 rfl ok_X0_unlikePlaces ml_X0_131 im_X0_unlikePlaces se_X0_unlikePlaces rfl (Nat.le_of_ble_eq_true rfl) rfl (Nat.le_of_ble_eq_true rfl) (by first | assumption | exact ⟨by omega, by omega, rfl⟩) (t_unlike hQ (by omega) (by omega)) (fun r_33 ρ_33 h_33 q_33 g_33 e_33 => ?_)
        obtain ⟨rfl, rfl, T, rfl, hT⟩ := q_33
        have hbT := bct_b hT.1 hT.2.1
        refine am_istore (pc' := 38) (ls' := [_, _, _, _, _, _]) dX0_leastSetToGoOut_36 rfl (Nat.le_of_ble_eq_true rfl) rfl rfl ?_
        refine am_iload (pc' := 40) dX0_leastSetToGoOut_38 rfl rfl ?_
        refine am_callSp (pc' := 43) (as := [_])  rfl dX0_leastSetToGoOut_40 rfl ok_J6_bitCount_0f7a4 ml_X0_135 sm_J6_bitCount_0f7a4 (Nat.le_of_ble_eq_true rfl) rfl (Nat.le_of_ble_eq_true rfl) (t_bitCount ⟨hT.1, hT.2.1⟩) ?_
        refine am_iload_n (pc' := 44) dX0_leastSetToGoOut_43 rfl rfl rfl ?_
        refine am_callSp (pc' := 47) (as := [_])  rfl dX0_leastSetToGoOut_44 rfl ok_J6_bitCount_0f7a4 ml_X0_135 sm_J6_bitCount_0f7a4 (Nat.le_of_ble_eq_true rfl) rfl (Nat.le_of_ble_eq_true rfl) (t_bitCount ⟨S0, S1⟩) ?_
        refine am_isub (pc' := 48) dX0_leastSetToGoOut_47 rfl ⟨by omega, by omega⟩ ?_
        refine am_istore (pc' := 50) (ls' := [_, _, _, _, _, _]) dX0_leastSetToGoOut_48 rfl (Nat.le_of_ble_eq_true rfl) rfl rfl ?_
        refine am_iload (pc' := 52) dX0_leastSetToGoOut_50 rfl rfl ?_
        refine am_if_lt (pc' := 55) (tgt := 66) dX0_leastSetToGoOut_52 rfl rfl (fun c_52 => ?_) (fun c_52 => ?_)
        · refine am_iload (pc' := 68) dX0_leastSetToGoOut_66 rfl rfl ?_
          refine am_istore_n (pc' := 69) (ls' := [_, _, _, _, _, _]) dX0_leastSetToGoOut_68 rfl rfl (Nat.le_of_ble_eq_true rfl) rfl rfl ?_
          first | exact hbet T _ _ (by omega) ho hT (by unfold fw_b; omega) | exact hwor T _ _ (by omega) ho hT (by unfold fw_b; omega) | fail
        · refine am_iload (pc' := 57) dX0_leastSetToGoOut_55 rfl rfl ?_
          refine am_if_ne (pc' := 60) (tgt := 69) dX0_leastSetToGoOut_57 rfl rfl (fun c_57 => ?_) (fun c_57 => ?_)
          · first | exact hbet T _ _ (by omega) ho hT (by unfold fw_b; omega) | exact hwor T _ _ (by omega) ho hT (by unfold fw_b; omega) | fail
          · refine am_iload (pc' := 62) dX0_leastSetToGoOut_60 rfl rfl ?_
            refine am_iload_n (pc' := 63) dX0_leastSetToGoOut_62 rfl rfl rfl ?_
            refine am_icmp_ge (pc' := 66) (tgt := 69) dX0_leastSetToGoOut_63 rfl rfl (fun c_63 => ?_) (fun c_63 => ?_)
            · first | exact hbet T _ _ (by omega) ho hT (by unfold fw_b; omega) | exact hwor T _ _ (by omega) ho hT (by unfold fw_b; omega) | fail
            · refine am_iload (pc' := 68) dX0_leastSetToGoOut_66 rfl rfl ?_
              refine am_istore_n (pc' := 69) (ls' := [_, _, _, _, _, _]) dX0_leastSetToGoOut_68 rfl rfl (Nat.le_of_ble_eq_true rfl) rfl rfl ?_
              first | exact hbet T _ _ (by omega) ho hT (by unfold fw_b; omega) | exact hwor T _ _ (by omega) ho hT (by unfold fw_b; omega) | fail
theorem t_least {ρ h : am_H} {A L P B a : Int} {kd : Int → Int} (hQ : ar_Q ρ h A L P B kd) (ha : 0 ≤ a ∧ a < h 19 7) : am_CT mX0_leastSetToGoOut 0 0 [am_R 19, am_I a] ρ h (fun r ρ' h' => ρ' = ρ ∧ h' = h ∧ ∃ S, r = some (am_I S) ∧ fw_is (nxt P B kd) (h 19 7) P B (dg P B a) S ∧ 0 ≤ S ∧ S < 32) := by
  have hN := ar_QN hQ
  obtain ⟨hC, hD, ⟨⟨c1, c2, c3, c4⟩, _⟩, hP, hB⟩ := id hQ
  obtain ⟨k0, k1, k2, k3, k4, k5, ⟨e1, e2, e3, e4, e5⟩, ⟨l1, l2, l3, l4, l5⟩, hA, hL0, hL7⟩ := am_DAx hD
  have hn58 := hC.1
  have ep := am_lc hC 19 0 20 (by decide)
  have h2 := two5 (n := P.toNat) (by omega)
  have h3 : 0 < 2 ^ P.toNat := Nat.pow_pos (by decide)
  refine am_ct (ls := [some (am_R 19), some (am_I a), none, none, none, none]) ok_X0_leastSetToGoOut rfl (fun _ => Nat.le_of_ble_eq_true rfl) (fun _ => rfl) (by intro v hv; simpa using hv) ?_
  refine am_iconst (pc' := 1) dX0_leastSetToGoOut_0 rfl rfl ?_
  refine am_aload_n (pc' := 2) dX0_leastSetToGoOut_1 rfl rfl rfl ?_
  refine am_getRk (ki := 0) (pc' := 5) (k := 0) (ci := 0) rfl dX0_leastSetToGoOut_2 rfl fl_X0_12 (by first | assumption | exact ⟨by omega, by omega, rfl⟩) rfl (by assumption) (by omega) ?_
  refine am_getIk (ki := 1) (pc' := 8) (k := 1) (ci := 3) rfl dX0_leastSetToGoOut_5 rfl fl_X0_67 (by first | assumption | exact ⟨by omega, by omega, rfl⟩) rfl ?_
  rw [c2]
  refine am_ishl1 (pc' := 9) dX0_leastSetToGoOut_8 rfl (by omega) (by omega) ?_
  refine am_iconst (pc' := 10) dX0_leastSetToGoOut_9 rfl rfl ?_
  refine am_isub (pc' := 11) dX0_leastSetToGoOut_10 rfl ⟨by omega, by omega⟩ ?_
  refine am_istore_n (pc' := 12) (ls' := [_, _, _, _, _, _]) dX0_leastSetToGoOut_11 rfl rfl (Nat.le_of_ble_eq_true rfl) rfl rfl ?_
  refine am_iconst (pc' := 13) dX0_leastSetToGoOut_12 rfl rfl ?_
  refine am_istore_n (pc' := 14) (ls' := [_, _, _, _, _, _]) dX0_leastSetToGoOut_13 rfl rfl (Nat.le_of_ble_eq_true rfl) rfl rfl ?_
  exact t_least_l hQ ha (fun S a b c => ⟨rfl, rfl, S, rfl, a, b, c⟩) ((h 19 7).toNat + 1) 0 _ _ _ (by omega) (by omega) (by omega) (by omega) (by omega) (fun _ => rfl) (fun z => by omega) (fun d T z0 z1 => by omega)
