/-! the numbers of the document -/
/-- the sum of f over 0 .. n - 1 -/
def mt_sum (f : Int → Int) : Nat → Int
  | 0 => 0
  | n + 1 => mt_sum f n + f n
/-- the number told by the digits f 0 .. f (n - 1) -/
def mt_cd (B : Int) (f : Int → Int) : Nat → Int
  | 0 => 0
  | n + 1 => mt_cd B f n * B + f n
def mt_ix (P p a : Int) : Int := if p + a < P then p + a else p + a - P
def mt_abs (x : Int) : Int := if 0 ≤ x then x else -x
def mt_far (P : Int) (f : Int → Int) (p a : Int) : Int := mt_abs (f p - f (mt_ix P p a))
/-- what a place's number becomes by a step -/
def mt_st (P B : Int) (kd f : Int → Int) (p : Int) : Int :=
  if kd p = 0 then mt_far P f p 1 else if kd p = 1 then mt_far P f p 2 else if mt_far P f p 1 + mt_far P f p 2 < B then mt_far P f p 1 + mt_far P f p 2 else mt_far P f p 1 + mt_far P f p 2 - B
def mt_it (P B : Int) (kd : Int → Int) : Nat → (Int → Int) → (Int → Int)
  | 0, f => f
  | n + 1, f => mt_st P B kd (mt_it P B kd n f)
/-- f and g are the same on 0 .. P - 1 -/
def mt_eq (P : Int) (f g : Int → Int) : Prop := ∀ p, 0 ≤ p → p < P → f p = g p
def mt_ok (P B : Int) (f : Int → Int) : Prop := ∀ p, 0 ≤ p → p < P → 0 ≤ f p ∧ f p < B
theorem mt_ix_in {P p a : Int} (hP : 2 ≤ P) (h0 : 0 ≤ p) (h1 : p < P) (ha : a = 1 ∨ a = 2) : 0 ≤ mt_ix P p a ∧ mt_ix P p a < P := by
  unfold mt_ix
  split <;> omega
theorem mt_far_in {P B p a : Int} {f : Int → Int} (hP : 2 ≤ P) (hf : mt_ok P B f) (h0 : 0 ≤ p) (h1 : p < P) (ha : a = 1 ∨ a = 2) : 0 ≤ mt_far P f p a ∧ mt_far P f p a < B := by
  have h2 := mt_ix_in hP h0 h1 ha
  have h3 := hf p h0 h1
  have h4 := hf _ h2.1 h2.2
  unfold mt_far mt_abs
  split <;> omega
theorem mt_st_in {P B p : Int} {kd f : Int → Int} (hP : 2 ≤ P) (hf : mt_ok P B f) (h0 : 0 ≤ p) (h1 : p < P) : 0 ≤ mt_st P B kd f p ∧ mt_st P B kd f p < B := by
  have h2 := mt_far_in hP hf h0 h1 (Or.inl rfl)
  have h3 := mt_far_in hP hf h0 h1 (Or.inr rfl)
  unfold mt_st
  split
  · exact h2
  · split
    · exact h3
    · split <;> omega
theorem mt_far_eq {P p a : Int} {f g : Int → Int} (hP : 2 ≤ P) (he : mt_eq P f g) (h0 : 0 ≤ p) (h1 : p < P) (ha : a = 1 ∨ a = 2) : mt_far P f p a = mt_far P g p a := by
  have h2 := mt_ix_in hP h0 h1 ha
  unfold mt_far
  rw [he p h0 h1, he _ h2.1 h2.2]
theorem mt_st_eq {P B : Int} {kd kd' f g : Int → Int} (hP : 2 ≤ P) (hk : mt_eq P kd kd') (he : mt_eq P f g) : mt_eq P (mt_st P B kd f) (mt_st P B kd' g) := by
  intro p h0 h1
  unfold mt_st
  rw [hk p h0 h1, mt_far_eq hP he h0 h1 (Or.inl rfl), mt_far_eq hP he h0 h1 (Or.inr rfl)]
theorem mt_it_eq {P B : Int} {kd kd' f g : Int → Int} (hP : 2 ≤ P) (hk : mt_eq P kd kd') (he : mt_eq P f g) : ∀ n, mt_eq P (mt_it P B kd n f) (mt_it P B kd' n g)
  | 0 => he
  | n + 1 => mt_st_eq hP hk (mt_it_eq hP hk he n)
theorem mt_it_in {P B : Int} {kd f : Int → Int} (hP : 2 ≤ P) (hf : mt_ok P B f) : ∀ n, mt_ok P B (mt_it P B kd n f)
  | 0 => hf
  | n + 1 => fun _ h0 h1 => mt_st_in hP (mt_it_in hP hf n) h0 h1
theorem mt_it_succ (P B : Int) (kd f : Int → Int) : ∀ n, mt_it P B kd (n + 1) f = mt_it P B kd n (mt_st P B kd f)
  | 0 => rfl
  | n + 1 => by
    show mt_st P B kd (mt_it P B kd (n + 1) f) = mt_st P B kd (mt_it P B kd n (mt_st P B kd f))
    rw [mt_it_succ P B kd f n]
theorem mt_it_add (P B : Int) (kd f : Int → Int) (m : Nat) : ∀ n, mt_it P B kd (n + m) f = mt_it P B kd n (mt_it P B kd m f)
  | 0 => by rw [Nat.zero_add]; rfl
  | n + 1 => by
    rw [show n + 1 + m = (n + m) + 1 by omega]
    show mt_st P B kd (mt_it P B kd (n + m) f) = mt_st P B kd (mt_it P B kd n (mt_it P B kd m f))
    rw [mt_it_add P B kd f m n]
theorem mt_sum_eq {f g : Int → Int} : ∀ {n : Nat}, (∀ p : Int, 0 ≤ p → p < n → f p = g p) → mt_sum f n = mt_sum g n
  | 0, _ => rfl
  | n + 1, h => by
    show mt_sum f n + f n = mt_sum g n + g n
    rw [mt_sum_eq (n := n) (fun p h0 h1 => h p h0 (by omega)), h n (by omega) (by omega)]
theorem mt_cd_eq {B : Int} {f g : Int → Int} : ∀ {n : Nat}, (∀ p : Int, 0 ≤ p → p < n → f p = g p) → mt_cd B f n = mt_cd B g n
  | 0, _ => rfl
  | n + 1, h => by
    show mt_cd B f n * B + f n = mt_cd B g n * B + g n
    rw [mt_cd_eq (n := n) (fun p h0 h1 => h p h0 (by omega)), h n (by omega) (by omega)]
/-- what stands at a ring: base 0, size 1, kind 2, number 3, coming 4 -/
def am_RA (ρ : am_H) (r : Int) : Prop := am_in ρ r 3 ∧ am_in ρ (r + 1) 8 ∧ am_in ρ (r + 2) 8 ∧ am_in ρ (r + 3) 8 ∧ (ρ r 2 = r + 1 ∧ ρ r 3 = r + 2 ∧ ρ r 4 = r + 3) ∧ ρ (r + 1) (-1) = 5 ∧ ρ (r + 2) (-1) = 5 ∧ ρ (r + 3) (-1) = 5
def am_RO (h : am_H) (r : Int) : Prop := 2 ≤ h r 1 ∧ h r 1 ≤ 5 ∧ 2 ≤ h r 0 ∧ h r 0 ≤ 6 ∧ mt_ok (h r 1) (h r 0) (h (r + 2))
/-- all cells but those listed stay -/
def am_fr (l : List Int) (h h' : am_H) : Prop := ∀ x k, x ∉ l → h' x k = h x k
theorem mt_sum_next (f : Int → Int) {i : Int} (h : 0 ≤ i) : mt_sum f (i + 1).toNat = mt_sum f i.toNat + f i := by
  rw [show (i + 1).toNat = i.toNat + 1 by omega]
  show mt_sum f i.toNat + f ((i.toNat : Nat) : Int) = _
  rw [Int.toNat_of_nonneg h]
theorem mt_cd_next (B : Int) (f : Int → Int) {i : Int} (h : 0 ≤ i) : mt_cd B f (i + 1).toNat = mt_cd B f i.toNat * B + f i := by
  rw [show (i + 1).toNat = i.toNat + 1 by omega]
  show mt_cd B f i.toNat * B + f ((i.toNat : Nat) : Int) = _
  rw [Int.toNat_of_nonneg h]
/-- powers -/
def mt_pw (B : Int) : Nat → Int
  | 0 => 1
  | n + 1 => mt_pw B n * B
theorem mt_pw_pos {B : Int} (h : 2 ≤ B) : ∀ n, 0 < mt_pw B n
  | 0 => Int.one_pos
  | n + 1 => Int.mul_pos (mt_pw_pos h n) (by omega)
theorem mt_pw_le {B : Int} (h : 2 ≤ B) (h6 : B ≤ 6) : ∀ n, n ≤ 5 → mt_pw B n ≤ 6 ^ n
  | 0, _ => Int.le_refl 1
  | n + 1, hn => by
    have h1 := mt_pw_le h h6 n (by omega)
    have h2 := mt_pw_pos h n
    show mt_pw B n * B ≤ 6 ^ (n + 1)
    rw [Int.pow_succ]
    exact Int.mul_le_mul h1 h6 (by omega) (by omega)
theorem mt_pw_7776 {B : Int} (h : 2 ≤ B) (h6 : B ≤ 6) (n : Nat) (hn : n ≤ 5) : mt_pw B n ≤ 7776 := by
  have h1 := mt_pw_le h h6 n hn
  have h2 : ∀ n, n ≤ 5 → (6 : Int) ^ n ≤ 7776 := by decide
  exact Int.le_trans h1 (h2 n hn)
theorem mt_cd_in {B : Int} {f : Int → Int} (h : 2 ≤ B) : ∀ {n : Nat}, (∀ p : Int, 0 ≤ p → p < n → 0 ≤ f p ∧ f p < B) → 0 ≤ mt_cd B f n ∧ mt_cd B f n < mt_pw B n
  | 0, _ => ⟨Int.le_refl 0, Int.one_pos⟩
  | n + 1, hf => by
    have h1 := mt_cd_in h (n := n) (fun p h0 h1 => hf p h0 (by omega))
    have h2 := hf n (by omega) (by omega)
    show 0 ≤ mt_cd B f n * B + f n ∧ mt_cd B f n * B + f n < mt_pw B n * B
    have h3 : 0 ≤ mt_cd B f n * B := Int.mul_nonneg h1.1 (by omega)
    have h4 : (mt_cd B f n + 1) * B ≤ mt_pw B n * B := Int.mul_le_mul_of_nonneg_right (by omega) (by omega)
    rw [Int.add_mul] at h4
    omega
