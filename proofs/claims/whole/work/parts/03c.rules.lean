/-! more numbers, branches, locals -/
theorem am_divE {a b : Int} (ha : am_okI a) (hb : am_okI b) (h0 : 0 ≤ a) (h1 : 0 < b) : Int32.ofInt a / Int32.ofInt b = Int32.ofInt (a / b) := by
  apply Int32.toInt_inj.mp
  rw [Int32.toInt_div, am_toInt ha, am_toInt hb, Int.tdiv_eq_ediv_of_nonneg h0, Int32.toInt_ofInt]
theorem am_divL {a b : Int} (ha : am_okJ a) (hb : am_okJ b) (h0 : 0 ≤ a) (h1 : 0 < b) : Int64.ofInt a / Int64.ofInt b = Int64.ofInt (a / b) := by
  apply Int64.toInt_inj.mp
  rw [Int64.toInt_div, am_toIntJ ha, am_toIntJ hb, Int.tdiv_eq_ediv_of_nonneg h0, Int64.toInt_ofInt]
theorem am_ne0 {b : Int} (hb : am_okI b) (h1 : 0 < b) : ¬ Int32.ofInt b = 0 := by
  rw [← am_0, am_inj hb am_ok0]; omega
theorem am_okJ0 : am_okJ 0 := ⟨by decide, by decide⟩
theorem am_0J : Int64.ofInt 0 = 0 := by decide
theorem am_ne0J {b : Int} (hb : am_okJ b) (h1 : 0 < b) : ¬ Int64.ofInt b = 0 := by
  rw [← am_0J, am_injJ hb am_okJ0]; omega
theorem am_okdiv {a b : Int} (ha : am_okI a) (h0 : 0 ≤ a) (h1 : 0 < b) : am_okI (a / b) := ⟨by have := Int.ediv_nonneg h0 (Int.le_of_lt h1); omega, by have := Int.ediv_le_self b h0; have := ha.2; omega⟩
theorem am_okdivJ {a b : Int} (ha : am_okJ a) (h0 : 0 ≤ a) (h1 : 0 < b) : am_okJ (a / b) := ⟨by have := Int.ediv_nonneg h0 (Int.le_of_lt h1); omega, by have := Int.ediv_le_self b h0; have := ha.2; omega⟩
theorem am_okmod {a b : Int} (hb : am_okI b) (h1 : 0 < b) : am_okI (a % b) := ⟨by have := Int.emod_nonneg a (by omega : b ≠ 0); omega, by have := Int.emod_lt_of_pos a h1; have := hb.2; omega⟩
theorem am_okmodJ {a b : Int} (hb : am_okJ b) (h1 : 0 < b) : am_okJ (a % b) := ⟨by have := Int.emod_nonneg a (by omega : b ≠ 0); omega, by have := Int.emod_lt_of_pos a h1; have := hb.2; omega⟩
theorem am_shlE : ∀ n : Fin 31, Int32.ofInt 1 <<< (Int32.ofInt (n : Nat) &&& 31) = Int32.ofInt ((2 ^ (n : Nat) : Nat) : Int) := by decide +kernel
theorem am_orE : ∀ a b : Fin 64, Int32.ofInt (a : Nat) ||| Int32.ofInt (b : Nat) = Int32.ofInt (((a : Nat) ||| (b : Nat) : Nat) : Int) := by decide +kernel
theorem am_orb : ∀ a b : Fin 64, ((a : Nat) ||| (b : Nat)) < 64 := by decide +kernel
theorem am_and1 : ∀ a : Fin 64, Int32.ofInt (a : Nat) &&& Int32.ofInt 1 = Int32.ofInt ((a : Nat) % 2 : Nat) := by decide +kernel
theorem am_shr1 : ∀ a : Fin 64, Int32.ofInt (a : Nat) >>> (Int32.ofInt 1 &&& 31) = Int32.ofInt ((a : Nat) / 2 : Nat) := by decide +kernel
section AMR
variable {M : am_M} {bc bs pc pc' : Nat} {ls ls' : List (Option am_V)} {st st' : List am_V} {ρ h : am_H} {Q : am_Q}
theorem am_idiv {a b : Int} (hd : decode M.2.1 pc = .ok (.idiv, 1)) (hp : pc + 1 = pc') (h0 : 0 ≤ a) (h1 : 0 < b) (k : am_WP M bc bs pc' ls (am_I (a / b) :: st) ρ h Q) : am_WP M bc bs pc ls (am_I b :: am_I a :: st) ρ h Q := by
  subst hp
  refine am_stk (fun p l e R s m args below meth c H locs cells slots Z lc ad hx hb _ _ os ol hl k => lv_idiv hx hb hd (am_ne0 (am_okh os) h1) ?_) (fun os _ => am_okI1 (am_okdiv (am_okh (am_okt os)) h0 h1) (am_okt (am_okt os))) k
  rw [am_divE (am_okh (am_okt os)) (am_okh os) h0 h1]; exact k
theorem am_irem {a b : Int} (hd : decode M.2.1 pc = .ok (.irem, 1)) (hp : pc + 1 = pc') (h0 : 0 ≤ a) (h1 : 0 < b) (k : am_WP M bc bs pc' ls (am_I (a % b) :: st) ρ h Q) : am_WP M bc bs pc ls (am_I b :: am_I a :: st) ρ h Q := by
  subst hp
  refine am_stk (fun p l e R s m args below meth c H locs cells slots Z lc ad hx hb _ _ os ol hl k => lv_irem hx hb hd (am_ne0 (am_okh os) h1) ?_) (fun os _ => am_okI1 (am_okmod (am_okh os) h1) (am_okt (am_okt os))) k
  rw [am_divE (am_okh (am_okt os)) (am_okh os) h0 h1, ← Int32.ofInt_mul, ← Int32.ofInt_sub, show a - a / b * b = a % b by rw [Int.emod_def, Int.mul_comm]]; exact k
theorem am_ldiv {a b : Int} (hd : decode M.2.1 pc = .ok (.ldiv, 1)) (hp : pc + 1 = pc') (h0 : 0 ≤ a) (h1 : 0 < b) (k : am_WP M bc bs pc' ls (am_L (a / b) :: st) ρ h Q) : am_WP M bc bs pc ls (am_L b :: am_L a :: st) ρ h Q := by
  subst hp
  refine am_stk (fun p l e R s m args below meth c H locs cells slots Z lc ad hx hb _ _ os ol hl k => lv_ldiv hx hb hd (am_ne0J (am_okh os) h1) ?_) (fun os _ => am_okL1 (am_okdivJ (am_okh (am_okt os)) h0 h1) (am_okt (am_okt os))) k
  rw [am_divL (am_okh (am_okt os)) (am_okh os) h0 h1]; exact k
theorem am_lrem {a b : Int} (hd : decode M.2.1 pc = .ok (.lrem, 1)) (hp : pc + 1 = pc') (h0 : 0 ≤ a) (h1 : 0 < b) (k : am_WP M bc bs pc' ls (am_L (a % b) :: st) ρ h Q) : am_WP M bc bs pc ls (am_L b :: am_L a :: st) ρ h Q := by
  subst hp
  refine am_stk (fun p l e R s m args below meth c H locs cells slots Z lc ad hx hb _ _ os ol hl k => lv_lrem hx hb hd (am_ne0J (am_okh os) h1) ?_) (fun os _ => am_okL1 (am_okmodJ (am_okh os) h1) (am_okt (am_okt os))) k
  rw [am_divL (am_okh (am_okt os)) (am_okh os) h0 h1, ← Int64.ofInt_mul, ← Int64.ofInt_sub, show a - a / b * b = a % b by rw [Int.emod_def, Int.mul_comm]]; exact k
theorem am_ladd {a b : Int} (hd : decode M.2.1 pc = .ok (.ladd, 1)) (hp : pc + 1 = pc') (hr : am_okJ (a + b)) (k : am_WP M bc bs pc' ls (am_L (a + b) :: st) ρ h Q) : am_WP M bc bs pc ls (am_L b :: am_L a :: st) ρ h Q := by
  subst hp
  refine am_stk (fun p l e R s m args below meth c H locs cells slots Z lc ad hx hb _ _ os ol hl k => lv_ladd hx hb hd ?_) (fun os _ => am_okL1 hr (am_okt (am_okt os))) k
  rw [← Int64.ofInt_add]; exact k
theorem am_lsub {a b : Int} (hd : decode M.2.1 pc = .ok (.lsub, 1)) (hp : pc + 1 = pc') (hr : am_okJ (a - b)) (k : am_WP M bc bs pc' ls (am_L (a - b) :: st) ρ h Q) : am_WP M bc bs pc ls (am_L b :: am_L a :: st) ρ h Q := by
  subst hp
  refine am_stk (fun p l e R s m args below meth c H locs cells slots Z lc ad hx hb _ _ os ol hl k => lv_lsub hx hb hd ?_) (fun os _ => am_okL1 hr (am_okt (am_okt os))) k
  rw [← Int64.ofInt_sub]; exact k
theorem am_lmul {a b : Int} (hd : decode M.2.1 pc = .ok (.lmul, 1)) (hp : pc + 1 = pc') (hr : am_okJ (a * b)) (k : am_WP M bc bs pc' ls (am_L (a * b) :: st) ρ h Q) : am_WP M bc bs pc ls (am_L b :: am_L a :: st) ρ h Q := by
  subst hp
  refine am_stk (fun p l e R s m args below meth c H locs cells slots Z lc ad hx hb _ _ os ol hl k => lv_lmul hx hb hd ?_) (fun os _ => am_okL1 hr (am_okt (am_okt os))) k
  rw [← Int64.ofInt_mul]; exact k
theorem am_land {a b : Int} (hd : decode M.2.1 pc = .ok (.land, 1)) (hp : pc + 1 = pc') (k : am_WP M bc bs pc' ls (am_L (Int64.ofInt a &&& Int64.ofInt b).toInt :: st) ρ h Q) : am_WP M bc bs pc ls (am_L b :: am_L a :: st) ρ h Q := by
  subst hp
  refine am_stk (fun p l e R s m args below meth c H locs cells slots Z lc ad hx hb _ _ os ol hl k => lv_land hx hb hd ?_) (fun os _ => am_okL1 (am_okwJ _) (am_okt (am_okt os))) k
  rw [← Int64.ofInt_toInt (Int64.ofInt a &&& Int64.ofInt b)]; exact k
theorem am_lor {a b : Int} (hd : decode M.2.1 pc = .ok (.lor, 1)) (hp : pc + 1 = pc') (k : am_WP M bc bs pc' ls (am_L (Int64.ofInt a ||| Int64.ofInt b).toInt :: st) ρ h Q) : am_WP M bc bs pc ls (am_L b :: am_L a :: st) ρ h Q := by
  subst hp
  refine am_stk (fun p l e R s m args below meth c H locs cells slots Z lc ad hx hb _ _ os ol hl k => lv_lor hx hb hd ?_) (fun os _ => am_okL1 (am_okwJ _) (am_okt (am_okt os))) k
  rw [← Int64.ofInt_toInt (Int64.ofInt a ||| Int64.ofInt b)]; exact k
theorem am_iand {a b : Int} (hd : decode M.2.1 pc = .ok (.iand, 1)) (hp : pc + 1 = pc') (k : am_WP M bc bs pc' ls (am_I (Int32.ofInt a &&& Int32.ofInt b).toInt :: st) ρ h Q) : am_WP M bc bs pc ls (am_I b :: am_I a :: st) ρ h Q := by
  subst hp
  refine am_stk (fun p l e R s m args below meth c H locs cells slots Z lc ad hx hb _ _ os ol hl k => lv_iand hx hb hd ?_) (fun os _ => am_okI1 (am_okw _) (am_okt (am_okt os))) k
  rw [← Int32.ofInt_toInt (Int32.ofInt a &&& Int32.ofInt b)]; exact k
theorem am_iand1 {a : Int} (hd : decode M.2.1 pc = .ok (.iand, 1)) (hp : pc + 1 = pc') (h0 : 0 ≤ a) (h1 : a < 64) (k : am_WP M bc bs pc' ls (am_I (a % 2) :: st) ρ h Q) : am_WP M bc bs pc ls (am_I 1 :: am_I a :: st) ρ h Q := by
  refine am_iand hd hp ?_
  obtain ⟨n, rfl⟩ := Int.eq_ofNat_of_zero_le h0
  have e := am_and1 ⟨n, by omega⟩
  rw [show (Int32.ofInt (n : Int) &&& Int32.ofInt 1).toInt = (n : Int) % 2 from ?_]
  · exact k
  · show (Int32.ofInt ((n : Nat) : Int) &&& Int32.ofInt 1).toInt = _
    rw [e]
    show (Int32.ofInt ((n % 2 : Nat) : Int)).toInt = _
    rw [am_toInt ⟨by omega, by omega⟩]; omega
theorem am_ior {a b : Int} (hd : decode M.2.1 pc = .ok (.ior, 1)) (hp : pc + 1 = pc') (h0 : 0 ≤ a ∧ a < 64) (h1 : 0 ≤ b ∧ b < 64) (k : am_WP M bc bs pc' ls (am_I ((a.toNat ||| b.toNat : Nat) : Int) :: st) ρ h Q) : am_WP M bc bs pc ls (am_I b :: am_I a :: st) ρ h Q := by
  subst hp
  have hlt := am_orb ⟨a.toNat, by omega⟩ ⟨b.toNat, by omega⟩
  have e9 := am_orE ⟨a.toNat, by omega⟩ ⟨b.toNat, by omega⟩
  dsimp only at hlt e9
  rw [Int.toNat_of_nonneg h0.1, Int.toNat_of_nonneg h1.1] at e9
  refine am_stk (fun p l e R s m args below meth c H locs cells slots Z lc ad hx hb _ _ os ol hl k => lv_ior hx hb hd ?_) (fun os _ => am_okI1 ⟨by omega, by omega⟩ (am_okt (am_okt os))) k
  rw [e9]; exact k
theorem am_ishr1 {a : Int} (hd : decode M.2.1 pc = .ok (.ishr, 1)) (hp : pc + 1 = pc') (h0 : 0 ≤ a) (h1 : a < 64) (k : am_WP M bc bs pc' ls (am_I (a / 2) :: st) ρ h Q) : am_WP M bc bs pc ls (am_I 1 :: am_I a :: st) ρ h Q := by
  subst hp
  obtain ⟨n, rfl⟩ := Int.eq_ofNat_of_zero_le h0
  have e9 := am_shr1 ⟨n, by omega⟩
  dsimp only at e9
  refine am_stk (fun p l e R s m args below meth c H locs cells slots Z lc ad hx hb _ _ os ol hl k => lv_ishr hx hb hd ?_) (fun os _ => am_okI1 ⟨by omega, by omega⟩ (am_okt (am_okt os))) k
  rw [e9]; exact k
theorem am_ishl1 {b : Int} (hd : decode M.2.1 pc = .ok (.ishl, 1)) (hp : pc + 1 = pc') (h0 : 0 ≤ b) (h1 : b < 31) (k : am_WP M bc bs pc' ls (am_I ((2 ^ b.toNat : Nat) : Int) :: st) ρ h Q) : am_WP M bc bs pc ls (am_I b :: am_I 1 :: st) ρ h Q := by
  subst hp
  obtain ⟨n, rfl⟩ := Int.eq_ofNat_of_zero_le h0
  have e9 := am_shlE ⟨n, by omega⟩
  dsimp only at e9
  have hlt : 2 ^ n < 2 ^ 31 := Nat.pow_lt_pow_right (by decide) (by omega)
  refine am_stk (fun p l e R s m args below meth c H locs cells slots Z lc ad hx hb _ _ os ol hl k => lv_ishl hx hb hd ?_) (fun os _ => am_okI1 ⟨by rw [Int.toNat_natCast]; exact Int.le_trans (by decide) (Int.natCast_nonneg _), by rw [Int.toNat_natCast]; exact Int.ofNat_lt.mpr hlt⟩ (am_okt (am_okt os))) k
  rw [e9]; exact k
theorem am_lshl {a b : Int} (hd : decode M.2.1 pc = .ok (.lshl, 1)) (hp : pc + 1 = pc') (k : am_WP M bc bs pc' ls (am_L (Int64.ofInt a <<< ((Int32.ofInt b).toInt64 &&& 63)).toInt :: st) ρ h Q) : am_WP M bc bs pc ls (am_I b :: am_L a :: st) ρ h Q := by
  subst hp
  exact am_stk (fun p l e R s m args below meth c H locs cells slots Z lc ad hx hb _ _ os ol hl k => lv_lshl hx hb hd (Int64.ofInt_toInt _).symm k) (fun os _ => am_okL1 (am_okwJ _) (am_okt (am_okt os))) k
theorem am_i2l {a : Int} (hd : decode M.2.1 pc = .ok (.i2l, 1)) (hp : pc + 1 = pc') (k : am_WP M bc bs pc' ls (am_L a :: st) ρ h Q) : am_WP M bc bs pc ls (am_I a :: st) ρ h Q := by
  subst hp
  refine am_stk (fun p l e R s m args below meth c H locs cells slots Z lc ad hx hb _ _ os ol hl k => lv_i2l hx hb hd ?_ k) (fun os _ => am_okL1 ⟨by have := (am_okh os).1; omega, by have := (am_okh os).2; omega⟩ (am_okt os)) k
  have ha : am_okI a := am_okh os
  exact Int32.toInt64_ofInt (by have := ha.1; rw [show Int32.minValue.toInt = -2147483648 from rfl]; omega) (by have := ha.2; rw [show Int32.maxValue.toInt = 2147483647 from rfl]; omega)
def am_b8 (a : Int) : Int := (Int32.ofInt a).toInt8.toInt32.toInt
def am_s16 (a : Int) : Int := (Int32.ofInt a).toInt16.toInt32.toInt
theorem am_i2b {a : Int} (hd : decode M.2.1 pc = .ok (.i2b, 1)) (hp : pc + 1 = pc') (k : am_WP M bc bs pc' ls (am_I (am_b8 a) :: st) ρ h Q) : am_WP M bc bs pc ls (am_I a :: st) ρ h Q := by
  subst hp
  exact am_stk (fun p l e R s m args below meth c H locs cells slots Z lc ad hx hb _ _ os ol hl k => lv_i2b hx hb hd (Int32.ofInt_toInt _).symm k) (fun os _ => am_okI1 (am_okw _) (am_okt os)) k
theorem am_i2s {a : Int} (hd : decode M.2.1 pc = .ok (.i2s, 1)) (hp : pc + 1 = pc') (k : am_WP M bc bs pc' ls (am_I (am_s16 a) :: st) ρ h Q) : am_WP M bc bs pc ls (am_I a :: st) ρ h Q := by
  subst hp
  exact am_stk (fun p l e R s m args below meth c H locs cells slots Z lc ad hx hb _ _ os ol hl k => lv_i2s hx hb hd (Int32.ofInt_toInt _).symm k) (fun os _ => am_okI1 (am_okw _) (am_okt os)) k
theorem am_dupI {a : Int} (hd : decode M.2.1 pc = .ok (.dup, 1)) (hp : pc + 1 = pc') (k : am_WP M bc bs pc' ls (am_I a :: am_I a :: st) ρ h Q) : am_WP M bc bs pc ls (am_I a :: st) ρ h Q := by
  subst hp
  exact am_stk (fun p l e R s m args below meth c H locs cells slots Z lc ad hx hb _ _ os ol hl k => lv_dup hx hb hd rfl k) (fun os _ => am_ok1 (am_okh os) os) k
theorem am_dupR {a : Int} (hd : decode M.2.1 pc = .ok (.dup, 1)) (hp : pc + 1 = pc') (k : am_WP M bc bs pc' ls (am_R a :: am_R a :: st) ρ h Q) : am_WP M bc bs pc ls (am_R a :: st) ρ h Q := by
  subst hp
  exact am_stk (fun p l e R s m args below meth c H locs cells slots Z lc ad hx hb _ _ os ol hl k => lv_dup hx hb hd rfl k) (fun os _ => am_ok1 (am_okh os) os) k
theorem am_dup2 {a b : Int} (hd : decode M.2.1 pc = .ok (.dup2, 1)) (hp : pc + 1 = pc') (k : am_WP M bc bs pc' ls (am_I b :: am_R a :: am_I b :: am_R a :: st) ρ h Q) : am_WP M bc bs pc ls (am_I b :: am_R a :: st) ρ h Q := by
  subst hp
  exact am_stk (fun p l e R s m args below meth c H locs cells slots Z lc ad hx hb _ _ os ol hl k => lv_dup2_11 hx hb hd rfl rfl k) (fun os _ => am_ok1 (am_okh os) (am_ok1 (am_okh (am_okt os)) os)) k
theorem am_goto {off : Int} (hd : decode M.2.1 pc = .ok (.goto off, 3)) (ht : (pc : Int) + off = (pc' : Int)) (k : am_WP M bc bs pc' ls st ρ h Q) : am_WP M bc bs pc ls st ρ h Q :=
  am_stk (fun p l e R s m args below meth c H locs cells slots Z lc ad hx hb _ _ os ol hl k => lv_goto hx hb hd ht k) (fun os _ => os) k
end AMR
