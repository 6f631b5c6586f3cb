/-! DifferRings: kinds, firsts, the common divisor -/
theorem cd_rec {x y : Int} (hx : 0 ≤ x) (hy : 0 < y) : Nat.gcd y.toNat (x % y).toNat = Nat.gcd x.toNat y.toNat := by
  obtain ⟨m, rfl⟩ := Int.eq_ofNat_of_zero_le hx
  obtain ⟨n, rfl⟩ := Int.eq_ofNat_of_zero_le (show 0 ≤ y by omega)
  have e : ((m : Int) % (n : Int)).toNat = m % n := rfl
  rw [e, Int.toNat_natCast, Int.toNat_natCast, Nat.gcd_comm m n, Nat.gcd_rec n m, Nat.gcd_comm]
theorem t_commonDivisor_l {ρ h : am_H} {a b : Int} {Q : am_Q} {g : Nat} (hq : Q (some (am_I g)) ρ h) :
    ∀ (n : Nat) (i x y : Int) (w : Option am_V), i + n = 100 → 0 ≤ i → 0 ≤ y → y ≤ x → x ≤ 7776 → x * y < 2 ^ n → Nat.gcd x.toNat y.toNat = g → am_WP mX7_commonDivisor 0 0 7 [some (am_I a), some (am_I b), some (am_I x), some (am_I y), some (am_I i), w] [] ρ h Q := by
  intro n
  induction n with
  | zero =>
    intro i x y w hi h0 hy hyx hx hm hg
    have y0 : y = 0 := by
      by_cases z : y = 0
      · exact z
      · have : 1 * 1 ≤ x * y := Int.mul_le_mul (by omega) (by omega) (by omega) (by omega)
        have : (2 : Int) ^ 0 = 1 := rfl
        omega
    refine am_iload (pc' := 9) dX7_commonDivisor_7 rfl rfl ?_
    refine am_bipush (pc' := 11) dX7_commonDivisor_9 rfl rfl (by decide) ?_
    refine am_icmp_ge (pc' := 14) (tgt := 34) dX7_commonDivisor_11 rfl rfl (fun c_11 => ?_) (fun c_11 => ?_)
    · refine am_iload_n (pc' := 35) dX7_commonDivisor_34 rfl rfl rfl ?_
      refine am_reti dX7_commonDivisor_35 rfl ?_
      rw [y0] at hg
      rw [show Int.toNat 0 = 0 from rfl, Nat.gcd_zero_right] at hg
      rw [show x = ((g : Nat) : Int) by omega]; exact hq
    · exfalso; omega
  | succ n ih =>
    intro i x y w hi h0 hy hyx hx hm hg
    have hstep : y ≠ 0 → y * (x % y) < 2 ^ n := fun z => by
      have r0 := Int.emod_nonneg x z
      have r1 := Int.emod_lt_of_pos x (show 0 < y by omega)
      have r2 : x % y + y ≤ x := by
        have e := Int.emod_def x y
        have q1 : 1 ≤ x / y := Int.le_ediv_of_mul_le (by omega) (by omega)
        have : y * 1 ≤ y * (x / y) := Int.mul_le_mul_of_nonneg_left q1 (by omega)
        omega
      have r3 : y * (2 * (x % y)) ≤ y * x := Int.mul_le_mul_of_nonneg_left (by omega) (by omega)
      rw [Int.mul_left_comm] at r3
      rw [Int.mul_comm x y, Int.pow_succ] at hm
      omega
    refine am_iload (pc' := 9) dX7_commonDivisor_7 rfl rfl ?_
    refine am_bipush (pc' := 11) dX7_commonDivisor_9 rfl rfl (by decide) ?_
    refine am_icmp_ge (pc' := 14) (tgt := 34) dX7_commonDivisor_11 rfl rfl (fun c_11 => ?_) (fun c_11 => ?_)
    · refine am_iload_n (pc' := 35) dX7_commonDivisor_34 rfl rfl rfl ?_
      refine am_reti dX7_commonDivisor_35 rfl ?_
      first | (exfalso; omega) | (rw [show y = 0 by omega, show Int.toNat 0 = 0 from rfl, Nat.gcd_zero_right] at hg; rw [show x = ((g : Nat) : Int) by omega]; exact hq)
    · refine am_iload_n (pc' := 15) dX7_commonDivisor_14 rfl rfl rfl ?_
      refine am_if_eq (pc' := 18) (tgt := 34) dX7_commonDivisor_15 rfl rfl (fun c_15 => ?_) (fun c_15 => ?_)
      · refine am_iload_n (pc' := 35) dX7_commonDivisor_34 rfl rfl rfl ?_
        refine am_reti dX7_commonDivisor_35 rfl ?_
        first | (exfalso; omega) | (rw [show y = 0 by omega, show Int.toNat 0 = 0 from rfl, Nat.gcd_zero_right] at hg; rw [show x = ((g : Nat) : Int) by omega]; exact hq)
      · refine am_iload_n (pc' := 19) dX7_commonDivisor_18 rfl rfl rfl ?_
        refine am_iload_n (pc' := 20) dX7_commonDivisor_19 rfl rfl rfl ?_
        have r0 := Int.emod_nonneg x (show y ≠ 0 by omega)
        have r1 := Int.emod_lt_of_pos x (show 0 < y by omega)
        refine am_irem (pc' := 21) dX7_commonDivisor_20 rfl (by omega) (by omega) ?_
        refine am_istore (pc' := 23) (ls' := [_, _, _, _, _, _]) dX7_commonDivisor_21 rfl (Nat.le_of_ble_eq_true rfl) rfl rfl ?_
        refine am_iload_n (pc' := 24) dX7_commonDivisor_23 rfl rfl rfl ?_
        refine am_istore_n (pc' := 25) (ls' := [_, _, _, _, _, _]) dX7_commonDivisor_24 rfl rfl (Nat.le_of_ble_eq_true rfl) rfl rfl ?_
        refine am_iload (pc' := 27) dX7_commonDivisor_25 rfl rfl ?_
        refine am_istore_n (pc' := 28) (ls' := [_, _, _, _, _, _]) dX7_commonDivisor_27 rfl rfl (Nat.le_of_ble_eq_true rfl) rfl rfl ?_
        refine am_iinc (pc' := 31) (ls' := [_, _, _, _, _, _]) dX7_commonDivisor_28 rfl rfl ⟨by omega, by omega⟩ (Nat.le_of_ble_eq_true rfl) rfl rfl ?_
        refine am_goto (pc' := 7) dX7_commonDivisor_31 rfl ?_
        exact ih _ _ _ _ (by omega) (by omega) r0 (by omega) (by omega) (hstep (by omega)) (by rw [cd_rec (by omega) (by omega)]; exact hg)
theorem t_commonDivisor {ρ h : am_H} {a b : Int} (ha : 0 ≤ a ∧ a ≤ 7776) (hb : 0 < b ∧ b ≤ 7776) : am_CT mX7_commonDivisor 0 0 [am_I a, am_I b] ρ h (am_P (am_I (Nat.gcd a.toNat b.toNat : Nat)) ρ h) := by
  have r0 := Int.emod_nonneg a (show b ≠ 0 by omega)
  have r1 := Int.emod_lt_of_pos a (show 0 < b by omega)
  have hm : b * (a % b) < 2 ^ 99 := by
    have h1 : b * (a % b) ≤ 7776 * 7776 := Int.mul_le_mul (by omega) (by omega) (by omega) (by omega)
    have h2 : (7776 : Int) * 7776 < 2 ^ 99 := by decide
    omega
  have K7 : ∀ w, am_WP mX7_commonDivisor 0 0 7 [some (am_I a), some (am_I b), some (am_I a), some (am_I b), some (am_I 0), w] [] ρ h (am_P (am_I (Nat.gcd a.toNat b.toNat : Nat)) ρ h) := by
    intro w
    refine am_iload (pc' := 9) dX7_commonDivisor_7 rfl rfl ?_
    refine am_bipush (pc' := 11) dX7_commonDivisor_9 rfl rfl (by decide) ?_
    refine am_icmp_ge (pc' := 14) (tgt := 34) dX7_commonDivisor_11 rfl rfl (fun c_11 => ?_) (fun c_11 => ?_)
    · exfalso; omega
    · refine am_iload_n (pc' := 15) dX7_commonDivisor_14 rfl rfl rfl ?_
      refine am_if_eq (pc' := 18) (tgt := 34) dX7_commonDivisor_15 rfl rfl (fun c_15 => ?_) (fun c_15 => ?_)
      · exfalso; omega
      · refine am_iload_n (pc' := 19) dX7_commonDivisor_18 rfl rfl rfl ?_
        refine am_iload_n (pc' := 20) dX7_commonDivisor_19 rfl rfl rfl ?_
        refine am_irem (pc' := 21) dX7_commonDivisor_20 rfl (by omega) (by omega) ?_
        refine am_istore (pc' := 23) (ls' := [_, _, _, _, _, _]) dX7_commonDivisor_21 rfl (Nat.le_of_ble_eq_true rfl) rfl rfl ?_
        refine am_iload_n (pc' := 24) dX7_commonDivisor_23 rfl rfl rfl ?_
        refine am_istore_n (pc' := 25) (ls' := [_, _, _, _, _, _]) dX7_commonDivisor_24 rfl rfl (Nat.le_of_ble_eq_true rfl) rfl rfl ?_
        refine am_iload (pc' := 27) dX7_commonDivisor_25 rfl rfl ?_
        refine am_istore_n (pc' := 28) (ls' := [_, _, _, _, _, _]) dX7_commonDivisor_27 rfl rfl (Nat.le_of_ble_eq_true rfl) rfl rfl ?_
        refine am_iinc (pc' := 31) (ls' := [_, _, _, _, _, _]) dX7_commonDivisor_28 rfl rfl ⟨by omega, by omega⟩ (Nat.le_of_ble_eq_true rfl) rfl rfl ?_
        refine am_goto (pc' := 7) dX7_commonDivisor_31 rfl ?_
        exact t_commonDivisor_l (g := Nat.gcd a.toNat b.toNat) ⟨rfl, rfl, rfl⟩ 99 _ _ _ _ (by omega) (by omega) r0 (by omega) (by omega) hm (cd_rec (by omega) (by omega))
  refine am_ct (ls := [some (am_I a), some (am_I b), none, none, none, none]) ok_X7_commonDivisor rfl (fun _ => Nat.le_of_ble_eq_true rfl) (fun _ => rfl) (by intro v hv; simpa using hv) ?_
  refine am_iload_n (pc' := 1) dX7_commonDivisor_0 rfl rfl rfl ?_
  refine am_istore_n (pc' := 2) (ls' := [_, _, _, _, _, _]) dX7_commonDivisor_1 rfl rfl (Nat.le_of_ble_eq_true rfl) rfl rfl ?_
  refine am_iload_n (pc' := 3) dX7_commonDivisor_2 rfl rfl rfl ?_
  refine am_istore_n (pc' := 4) (ls' := [_, _, _, _, _, _]) dX7_commonDivisor_3 rfl rfl (Nat.le_of_ble_eq_true rfl) rfl rfl ?_
  refine am_iconst (pc' := 5) dX7_commonDivisor_4 rfl rfl ?_
  refine am_istore (pc' := 7) (ls' := [_, _, _, _, _, _]) dX7_commonDivisor_5 rfl (Nat.le_of_ble_eq_true rfl) rfl rfl ?_
  exact K7 _
/-- a set of places, told by its bits -/
def st_is (n : Int) (A : Int → Prop) (S : Int) : Prop := 0 ≤ S ∧ ∀ i : Nat, S.toNat.testBit i = true ↔ ((i : Int) < n ∧ A i)
theorem st_0 (A : Int → Prop) : st_is 0 A 0 := ⟨Int.le_refl 0, fun i => by rw [show (0 : Int).toNat = 0 from rfl, Nat.zero_testBit]; constructor <;> intro z <;> first | exact absurd z (by decide) | (exfalso; omega)⟩
theorem st_skip {n S : Int} {A : Int → Prop} (h : st_is n A S) (hA : ¬ A n) : st_is (n + 1) A S := by
  refine ⟨h.1, fun i => ?_⟩
  rw [h.2 i]
  constructor
  · intro z; exact ⟨by omega, z.2⟩
  · intro z
    refine ⟨?_, z.2⟩
    by_cases y : (i : Int) = n
    · exact absurd (y ▸ z.2) hA
    · omega
theorem st_add {n S : Int} {A : Int → Prop} (h : st_is n A S) (hn : 0 ≤ n) (hA : A n) : st_is (n + 1) A ((S.toNat ||| (((2 ^ n.toNat : Nat) : Int)).toNat : Nat) : Int) := by
  refine ⟨Int.natCast_nonneg _, fun i => ?_⟩
  rw [Int.toNat_natCast, Nat.testBit_or, Int.toNat_natCast, Nat.testBit_two_pow, Bool.or_eq_true, h.2 i, decide_eq_true_iff]
  constructor
  · intro z
    rcases z with z | z
    · exact ⟨by omega, z.2⟩
    · have e : (i : Int) = n := by omega
      exact ⟨by omega, e ▸ hA⟩
  · intro z
    by_cases y : (i : Int) = n
    · exact Or.inr (by omega)
    · exact Or.inl ⟨by omega, z.2⟩
theorem st_lt {n S : Int} {A : Int → Prop} (h : st_is n A S) (hn : n ≤ 6) : 0 ≤ S ∧ S < 64 := by
  have h0 := h.1
  have : S.toNat < 2 ^ 6 := Nat.lt_pow_two_of_testBit _ (fun i hi => by
    by_cases z : S.toNat.testBit i = true
    · have := ((h.2 i).mp z).1
      omega
    · simpa using z)
  have h64 : (2 : Nat) ^ 6 = 64 := rfl
  omega
theorem st_uniq {n S T : Int} {A B : Int → Prop} (h1 : st_is n A S) (h2 : st_is n B T) (hAB : ∀ i, 0 ≤ i → i < n → (A i ↔ B i)) : S = T := by
  have e : S.toNat = T.toNat := Nat.eq_of_testBit_eq (fun i => by
    rw [Bool.eq_iff_iff, h1.2 i, h2.2 i]
    constructor
    · intro z; exact ⟨z.1, (hAB i (by omega) z.1).mp z.2⟩
    · intro z; exact ⟨z.1, (hAB i (by omega) z.1).mpr z.2⟩)
  have := h1.1
  have := h2.1
  omega
/-- readings that are so -/
def so_g (c : Int) (t q v : Int → Int) (P B : Int) (kd f : Int → Int) : Prop := ∀ k, 0 ≤ k → k < c → mt_it P B kd (t k).toNat f (q k) = v k
theorem so_eq {c P B : Int} {t q v kd kd' f f' t' q' v' : Int → Int} (hP : 2 ≤ P) (hq : ∀ k, 0 ≤ k → k < c → 0 ≤ q k ∧ q k < P) (ht : mt_eq c t t') (hq' : mt_eq c q q') (hv : mt_eq c v v') (hk : mt_eq P kd kd') (hf : mt_eq P f f') (h : so_g c t q v P B kd f) : so_g c t' q' v' P B kd' f' := fun k k0 k1 => by
  have z := hq k k0 k1
  rw [← ht k k0 k1, ← hq' k k0 k1, ← hv k k0 k1, ← h k k0 k1]
  exact (mt_it_eq hP hk hf _ _ z.1 z.2).symm
theorem so_iff {c P B : Int} {t q v kd kd' f f' t' q' v' : Int → Int} (hP : 2 ≤ P) (hq : ∀ k, 0 ≤ k → k < c → 0 ≤ q k ∧ q k < P) (ht : mt_eq c t t') (hq' : mt_eq c q q') (hv : mt_eq c v v') (hk : mt_eq P kd kd') (hf : mt_eq P f f') : so_g c t q v P B kd f ↔ so_g c t' q' v' P B kd' f' :=
  ⟨so_eq hP hq ht hq' hv hk hf, so_eq hP (fun k k0 k1 => by rw [← hq' k k0 k1]; exact hq k k0 k1) (fun k a b => (ht k a b).symm) (fun k a b => (hq' k a b).symm) (fun k a b => (hv k a b).symm) (fun k a b => (hk k a b).symm) (fun k a b => (hf k a b).symm)⟩
