/-! rows as numbers -/
def dv (B c : Int) : Nat → Int
  | 0 => c
  | k + 1 => dv B c k / B
def dg (P B c p : Int) : Int := dv B c (P - 1 - p).toNat % B
theorem dv_in {B c : Int} (hB : 2 ≤ B) (h0 : 0 ≤ c) : ∀ (k m : Nat), c < mt_pw B (k + m) → 0 ≤ dv B c k ∧ dv B c k < mt_pw B m
  | 0, m, h => by rw [Nat.zero_add] at h; exact ⟨h0, h⟩
  | k + 1, m, h => by
    have h1 := dv_in hB h0 k (m + 1) (by rw [show k + (m + 1) = k + 1 + m by omega]; exact h)
    show 0 ≤ dv B c k / B ∧ dv B c k / B < mt_pw B m
    exact ⟨Int.ediv_nonneg h1.1 (by omega), Int.ediv_lt_of_lt_mul (by omega) h1.2⟩
theorem dv_nn {B c : Int} (hB : 2 ≤ B) (h0 : 0 ≤ c) : ∀ k, 0 ≤ dv B c k ∧ dv B c k ≤ c
  | 0 => ⟨h0, Int.le_refl c⟩
  | k + 1 => by
    have h1 := dv_nn hB h0 k
    show 0 ≤ dv B c k / B ∧ dv B c k / B ≤ c
    exact ⟨Int.ediv_nonneg h1.1 (by omega), Int.le_trans (Int.ediv_le_self B h1.1) h1.2⟩
theorem dg_in {P B c p : Int} (hB : 2 ≤ B) : 0 ≤ dg P B c p ∧ dg P B c p < B := ⟨Int.emod_nonneg _ (by omega), Int.emod_lt_of_pos _ (by omega)⟩
theorem cd_dg {B c : Int} (hB : 2 ≤ B) (h0 : 0 ≤ c) {P : Nat} (h1 : c < mt_pw B P) : ∀ n, n ≤ P → mt_cd B (dg P B c) n = dv B c (P - n)
  | 0, _ => by
    have h2 := dv_in hB h0 P 0 h1
    have h3 : mt_pw B 0 = 1 := rfl
    show 0 = dv B c P
    omega
  | n + 1, hn => by
    have h2 := cd_dg hB h0 h1 n (by omega)
    show mt_cd B (dg P B c) n * B + dg P B c n = _
    rw [h2, show P - n = (P - (n + 1)) + 1 by omega]
    show dv B c (P - (n + 1)) / B * B + dv B c (((P : Nat) : Int) - 1 - n).toNat % B = _
    rw [show (((P : Nat) : Int) - 1 - n).toNat = P - (n + 1) by omega, Int.mul_comm]
    exact Int.mul_ediv_add_emod _ _
theorem dv_cd {B : Int} {f : Int → Int} (hB : 2 ≤ B) {n : Nat} (hf : ∀ p : Int, 0 ≤ p → p < n → 0 ≤ f p ∧ f p < B) : ∀ k, k ≤ n → dv B (mt_cd B f n) k = mt_cd B f (n - k)
  | 0, _ => rfl
  | k + 1, hk => by
    have h1 := dv_cd hB hf k (by omega)
    show dv B (mt_cd B f n) k / B = _
    rw [h1, show n - k = (n - (k + 1)) + 1 by omega]
    show (mt_cd B f (n - (k + 1)) * B + f ((n - (k + 1) : Nat) : Int)) / B = _
    have h2 := hf ((n - (k + 1) : Nat) : Int) (by omega) (by omega)
    rw [Int.add_comm, Int.add_mul_ediv_right _ _ (by omega : B ≠ 0), Int.ediv_eq_zero_of_lt h2.1 h2.2]
    omega
theorem dg_cd {P B : Int} {f : Int → Int} (hB : 2 ≤ B) (hP : 0 ≤ P) (hf : mt_ok P B f) {p : Int} (h0 : 0 ≤ p) (h1 : p < P) : dg P B (mt_cd B f P.toNat) p = f p := by
  unfold dg
  rw [dv_cd hB (n := P.toNat) (fun q z0 z1 => hf q z0 (by omega)) _ (by omega), show P.toNat - (P - 1 - p).toNat = p.toNat + 1 by omega]
  show (mt_cd B f p.toNat * B + f ((p.toNat : Nat) : Int)) % B = _
  rw [Int.toNat_of_nonneg h0, Int.add_comm, Int.add_mul_emod_self_right]
  exact Int.emod_eq_of_lt (hf p h0 h1).1 (hf p h0 h1).2
theorem cd_dgP {P B c : Int} (hB : 2 ≤ B) (hP : 0 ≤ P) (h0 : 0 ≤ c) (h1 : c < mt_pw B P.toNat) : mt_cd B (dg P B c) P.toNat = c := by
  have h := cd_dg hB h0 h1 P.toNat (Nat.le_refl _)
  rw [Nat.sub_self, Int.toNat_of_nonneg hP] at h
  exact h
/-- what a row becomes -/
def nxt (P B : Int) (kd : Int → Int) (c : Int) : Int := mt_cd B (mt_st P B kd (dg P B c)) P.toNat
theorem nxt_in {P B : Int} {kd : Int → Int} (hP : 2 ≤ P) (hB : 2 ≤ B) : gr_in (nxt P B kd) (mt_pw B P.toNat) := fun c _ _ =>
  mt_cd_in hB (fun p h0 h1 => mt_st_in hP (fun _ _ _ => dg_in hB) h0 (by omega))
theorem nxt_cd {P B : Int} {kd f : Int → Int} (hP : 2 ≤ P) (hB : 2 ≤ B) (hf : mt_ok P B f) : nxt P B kd (mt_cd B f P.toNat) = mt_cd B (mt_st P B kd f) P.toNat :=
  mt_cd_eq (fun p h0 h1 => mt_st_eq hP (fun _ _ _ => rfl) (fun q z0 z1 => dg_cd hB (by omega) hf z0 z1) p h0 (by omega))
theorem gi_cd {P B : Int} {kd f : Int → Int} (hP : 2 ≤ P) (hB : 2 ≤ B) (hf : mt_ok P B f) : ∀ n, gi (nxt P B kd) n (mt_cd B f P.toNat) = mt_cd B (mt_it P B kd n f) P.toNat
  | 0 => rfl
  | n + 1 => by
    show nxt P B kd (gi (nxt P B kd) n (mt_cd B f P.toNat)) = mt_cd B (mt_st P B kd (mt_it P B kd n f)) P.toNat
    rw [gi_cd hP hB hf n, nxt_cd hP hB (mt_it_in hP hf n)]
theorem mt_cd_0 {B : Int} {f : Int → Int} : ∀ {n : Nat}, (∀ p : Int, 0 ≤ p → p < n → f p = 0) → mt_cd B f n = 0
  | 0, _ => rfl
  | n + 1, h => by
    show mt_cd B f n * B + f n = 0
    rw [mt_cd_0 (n := n) (fun p h0 h1 => h p h0 (by omega)), h n (by omega) (by omega)]
    omega
theorem nxt_0 {P B : Int} {kd : Int → Int} (hB : 2 ≤ B) : nxt P B kd 0 = 0 := by
  refine mt_cd_0 (fun p h0 h1 => ?_)
  have hz : ∀ q, dg P B 0 q = 0 := fun q => by
    unfold dg
    have h2 := dv_nn (c := 0) hB (Int.le_refl 0) (P - 1 - q).toNat
    rw [show dv B 0 (P - 1 - q).toNat = 0 by omega]
    rfl
  have hf : ∀ a, mt_far P (dg P B 0) p a = 0 := fun a => by unfold mt_far; rw [hz, hz]; rfl
  unfold mt_st
  rw [hf, hf]
  repeat' split
  all_goals first | rfl | omega
theorem nxt_eq {P B c : Int} {kd kd' : Int → Int} (hP : 2 ≤ P) (h : mt_eq P kd kd') : nxt P B kd c = nxt P B kd' c :=
  mt_cd_eq (fun p h0 h1 => mt_st_eq hP h (fun _ _ _ => rfl) p h0 (by omega))
/-! sums -/
theorem mt_sum_zero {f : Int → Int} : ∀ {n : Nat}, (∀ p : Int, 0 ≤ p → p < n → 0 ≤ f p) → mt_sum f n = 0 → ∀ p : Int, 0 ≤ p → p < n → f p = 0
  | 0, _, _, p, h0, h1 => by omega
  | n + 1, hf, hs, p, h0, h1 => by
    have hs : mt_sum f n + f n = 0 := hs
    have h2 : 0 ≤ mt_sum f n := by
      have : ∀ m : Nat, m ≤ n → 0 ≤ mt_sum f m := fun m => by
        induction m with
        | zero => intro _; exact Int.le_refl 0
        | succ m ih => intro hm; have := ih (by omega); have := hf m (by omega) (by omega); show 0 ≤ mt_sum f m + f m; omega
      exact this n (Nat.le_refl n)
    have h3 := hf n (by omega) (by omega)
    by_cases e : p = n
    · rw [e]; omega
    · exact mt_sum_zero (n := n) (fun q z0 z1 => hf q z0 (by omega)) (by omega) p h0 (by omega)
theorem mt_sum_ge {f : Int → Int} : ∀ {n : Nat}, (∀ p : Int, 0 ≤ p → p < n → 0 ≤ f p) → 0 ≤ mt_sum f n
  | 0, _ => Int.le_refl 0
  | n + 1, hf => by
    have := mt_sum_ge (f := f) (n := n) (fun q z0 z1 => hf q z0 (by omega))
    have := hf n (by omega) (by omega)
    show 0 ≤ mt_sum f n + f n
    omega
theorem mt_sum_ge1 {f : Int → Int} {n : Nat} (hf : ∀ p : Int, 0 ≤ p → p < n → 0 ≤ f p) {d : Int} (h0 : 0 ≤ d) (h1 : d < n) (hd : f d ≠ 0) : 0 < mt_sum f n := by
  have h2 := mt_sum_ge hf
  by_cases e : mt_sum f n = 0
  · exact absurd (mt_sum_zero hf e d h0 h1) hd
  · omega
theorem mt_sum_ex {f : Int → Int} {n : Nat} (h : mt_sum f n ≠ 0) : ∃ d : Int, 0 ≤ d ∧ d < n ∧ f d ≠ 0 := by
  induction n with
  | zero => exact absurd rfl h
  | succ n ih =>
    by_cases e : f n = 0
    · obtain ⟨d, a, b, c⟩ := ih (fun z => h (by show mt_sum f n + f n = 0; omega))
      exact ⟨d, a, by omega, c⟩
    · exact ⟨n, by omega, by omega, e⟩
theorem mt_sum_one {f g : Int → Int} {d : Int} : ∀ {n : Nat}, 0 ≤ d → d < n → (∀ p : Int, 0 ≤ p → p < n → p ≠ d → f p = g p) → mt_sum f n = mt_sum g n + (f d - g d)
  | 0, _, h1, _ => by omega
  | n + 1, h0, h1, h => by
    show mt_sum f n + f n = mt_sum g n + g n + (f d - g d)
    by_cases e : d = n
    · rw [mt_sum_eq (n := n) (fun p z0 z1 => h p z0 (by omega) (by omega)), e]
      omega
    · rw [mt_sum_one (n := n) h0 (by omega) (fun p z0 z1 z2 => h p z0 (by omega) z2), h n (by omega) (by omega) (by omega)]
      omega
/-! taking away those that come of none that is left -/
def pr_pc (od : Int → Int) (x d : Int) : Prop := ∃ i, 0 ≤ i ∧ i < x ∧ od i = d
noncomputable def pr_cm (nx : Int → Int) (N : Int) (od : Int → Int) (x c : Int) : Int := mt_sum (fun d => mt_ch (nx d = c ∧ ¬ pr_pc od x d)) N.toNat
def pr_I (nx : Int → Int) (N : Int) (cm od : Int → Int) (q x : Int) : Prop :=
  (0 ≤ x ∧ x ≤ q ∧ q ≤ N) ∧ (∀ i, 0 ≤ i → i < q → 0 ≤ od i ∧ od i < N) ∧ (∀ i j, 0 ≤ i → i < j → j < q → od i ≠ od j) ∧ (∀ c, 0 ≤ c → c < N → cm c = pr_cm nx N od x c) ∧
  (∀ c, 0 ≤ c → c < N → (cm c = 0 ↔ pr_pc od q c)) ∧ (∀ i, 0 ≤ i → i < q → ∀ d, 0 ≤ d → d < N → nx d = od i → ∃ j, 0 ≤ j ∧ j < i ∧ od j = d)
theorem pr_bound {N q : Int} {od : Int → Int} (hN : 0 ≤ N) (h0 : 0 ≤ q) (h1 : ∀ i, 0 ≤ i → i < q → 0 ≤ od i ∧ od i < N) (h2 : ∀ i j, 0 ≤ i → i < j → j < q → od i ≠ od j) : q ≤ N := by
  have := gr_ph N.toNat q.toNat (fun k => od k) (fun i hi => by have := h1 i (by omega) (by omega); omega) (fun i j hij hj => h2 i j (by omega) (by omega) (by omega))
  omega
theorem pr_cm_nn {nx : Int → Int} {N : Int} {od : Int → Int} {x c : Int} : 0 ≤ pr_cm nx N od x c := mt_sum_ge (fun p _ _ => (mt_ch_in _).1)
theorem pr_cm_0 {nx : Int → Int} {N : Int} {od : Int → Int} {x c : Int} (h : pr_cm nx N od x c = 0) {d : Int} (h0 : 0 ≤ d) (h1 : d < N) (hd : nx d = c) : pr_pc od x d := by
  have := mt_sum_zero (fun p _ _ => (mt_ch_in _).1) h d h0 (by omega)
  by_cases e : pr_pc od x d
  · exact e
  · rw [mt_ch_t ⟨hd, e⟩] at this; omega
theorem pr_cm_step {nx : Int → Int} {N : Int} {od od' : Int → Int} {x : Int} (hx : 0 ≤ x) (hd : 0 ≤ od x ∧ od x < N) (hn : ¬ pr_pc od x (od x)) (he : ∀ i, 0 ≤ i → i < x + 1 → od' i = od i) (c : Int) : pr_cm nx N od' (x + 1) c = pr_cm nx N od x c - (if nx (od x) = c then 1 else 0) := by
  have hpc : ∀ d, pr_pc od' (x + 1) d ↔ pr_pc od x d ∨ d = od x := fun d => by
    constructor
    · rintro ⟨i, a, b, e⟩
      rw [he i a b] at e
      by_cases z : i = x
      · exact Or.inr (by rw [← e, z])
      · exact Or.inl ⟨i, a, by omega, e⟩
    · rintro (⟨i, a, b, e⟩ | e)
      · exact ⟨i, a, by omega, by rw [he i a (by omega)]; exact e⟩
      · exact ⟨x, hx, by omega, by rw [he x hx (by omega)]; exact e.symm⟩
  unfold pr_cm
  rw [mt_sum_one (f := fun d => mt_ch (nx d = c ∧ ¬ pr_pc od' (x + 1) d)) (g := fun d => mt_ch (nx d = c ∧ ¬ pr_pc od x d)) (d := od x) hd.1 (by omega) (fun p _ _ z => mt_ch_iff (by rw [hpc p]; constructor <;> (rintro ⟨a, b⟩; refine ⟨a, ?_⟩; simpa [z] using b)))]
  rw [mt_ch_f (P := nx (od x) = c ∧ ¬ pr_pc od' (x + 1) (od x)) (fun z => z.2 ((hpc _).mpr (Or.inr rfl)))]
  by_cases e : nx (od x) = c
  · rw [mt_ch_t ⟨e, hn⟩, if_pos e]; omega
  · rw [mt_ch_f (fun z => e z.1), if_neg e]; omega
theorem pr_fresh {od : Int → Int} {q x : Int} (h : ∀ i j, 0 ≤ i → i < j → j < q → od i ≠ od j) (hx : x < q) : ¬ pr_pc od x (od x) := by
  rintro ⟨i, a, b, e⟩
  exact h i x a b hx e
theorem pr_pos {nx : Int → Int} {N : Int} {cm od : Int → Int} {q x : Int} (h : pr_I nx N cm od q x) (hin : gr_in nx N) (hx : x < q) : 0 < cm (nx (od x)) := by
  obtain ⟨⟨x0, xq, qN⟩, h1, h2, h3, h4, h5⟩ := h
  have hd := h1 x x0 hx
  have ht := hin _ hd.1 hd.2
  rw [h3 _ ht.1 ht.2]
  refine mt_sum_ge1 (fun p _ _ => (mt_ch_in _).1) hd.1 (by omega) ?_
  rw [mt_ch_t ⟨rfl, pr_fresh h2 hx⟩]
  decide
/-- one more is looked at, nothing comes to the row's end -/
theorem pr_stepB {nx : Int → Int} {N : Int} {cm cm' od : Int → Int} {q x : Int} (h : pr_I nx N cm od q x) (hin : gr_in nx N) (hx : x < q) (hc : ∀ c, 0 ≤ c → c < N → cm' c = if c = nx (od x) then cm c - 1 else cm c) (hz : cm (nx (od x)) - 1 ≠ 0) : pr_I nx N cm' od q (x + 1) := by
  have hpos := pr_pos h hin hx
  obtain ⟨⟨x0, xq, qN⟩, h1, h2, h3, h4, h5⟩ := h
  have hd := h1 x x0 hx
  refine ⟨⟨by omega, by omega, qN⟩, h1, h2, fun c c0 c1 => ?_, fun c c0 c1 => ?_, h5⟩
  · rw [hc c c0 c1, pr_cm_step x0 hd (pr_fresh h2 hx) (fun _ _ _ => rfl), ← h3 c c0 c1]
    by_cases e : c = nx (od x)
    · rw [if_pos e, if_pos e.symm]
    · rw [if_neg e, if_neg (fun z => e z.symm)]; omega
  · rw [hc c c0 c1, ← h4 c c0 c1]
    by_cases e : c = nx (od x)
    · rw [if_pos e, e]; omega
    · rw [if_neg e]
/-- one more is looked at, and what it becomes comes to the row's end -/
theorem pr_stepA {nx : Int → Int} {N : Int} {cm cm' od od' : Int → Int} {q x : Int} (hN : 0 ≤ N) (h : pr_I nx N cm od q x) (hin : gr_in nx N) (hx : x < q) (hc : ∀ c, 0 ≤ c → c < N → cm' c = if c = nx (od x) then cm c - 1 else cm c) (hz : cm (nx (od x)) - 1 = 0) (ho : ∀ i, 0 ≤ i → i < q + 1 → od' i = if i = q then nx (od x) else od i) : pr_I nx N cm' od' (q + 1) (x + 1) := by
  have hpos := pr_pos h hin hx
  obtain ⟨⟨x0, xq, qN⟩, h1, h2, h3, h4, h5⟩ := h
  have hd := h1 x x0 hx
  have ht := hin _ hd.1 hd.2
  have hnq : ¬ pr_pc od q (nx (od x)) := fun z => by have := (h4 _ ht.1 ht.2).mpr z; omega
  have hoL : ∀ i, 0 ≤ i → i < q → od' i = od i := fun i a b => by rw [ho i a (by omega), if_neg (by omega)]
  have hoQ : od' q = nx (od x) := by rw [ho q (by omega) (by omega), if_pos rfl]
  have g1 : ∀ i, 0 ≤ i → i < q + 1 → 0 ≤ od' i ∧ od' i < N := fun i a b => by
    by_cases z : i = q
    · rw [z, hoQ]; exact ht
    · rw [hoL i a (by omega)]; exact h1 i a (by omega)
  have g2 : ∀ i j, 0 ≤ i → i < j → j < q + 1 → od' i ≠ od' j := fun i j a b d => by
    rw [hoL i a (by omega)]
    by_cases z : j = q
    · rw [z, hoQ]; exact fun e => hnq ⟨i, a, by omega, e⟩
    · rw [hoL j (by omega) (by omega)]; exact h2 i j a b (by omega)
  have g3 : ∀ c, 0 ≤ c → c < N → cm' c = pr_cm nx N od' (x + 1) c := fun c c0 c1 => by
    rw [hc c c0 c1, pr_cm_step x0 hd (pr_fresh h2 hx) (fun i a b => hoL i a (by omega)), ← h3 c c0 c1]
    by_cases e : c = nx (od x)
    · rw [if_pos e, if_pos e.symm]
    · rw [if_neg e, if_neg (fun z => e z.symm)]; omega
  refine ⟨⟨by omega, by omega, pr_bound hN (by omega) g1 g2⟩, g1, g2, g3, fun c c0 c1 => ?_, fun i a b d d0 d1 e => ?_⟩
  · rw [hc c c0 c1]
    by_cases e : c = nx (od x)
    · rw [if_pos e, e]
      exact ⟨fun _ => ⟨q, by omega, by omega, hoQ⟩, fun _ => hz⟩
    · rw [if_neg e, h4 c c0 c1]
      constructor
      · rintro ⟨i, a, b, z⟩; exact ⟨i, a, by omega, by rw [hoL i a b]; exact z⟩
      · rintro ⟨i, a, b, z⟩
        by_cases y : i = q
        · rw [y, hoQ] at z; exact absurd z.symm e
        · exact ⟨i, a, by omega, by rw [← hoL i a (by omega)]; exact z⟩
  · by_cases z : i = q
    · subst z
      rw [hoQ] at e
      have hcm : pr_cm nx N od' (x + 1) (nx (od x)) = 0 := by rw [← g3 _ ht.1 ht.2, hc _ ht.1 ht.2, if_pos rfl]; exact hz
      obtain ⟨j, j0, j1, ej⟩ := pr_cm_0 hcm d0 d1 e
      exact ⟨j, j0, by omega, ej⟩
    · rw [hoL i a (by omega)] at e
      obtain ⟨j, j0, j1, ej⟩ := h5 i a (by omega) d d0 d1 e
      exact ⟨j, j0, j1, by rw [hoL j j0 (by omega)]; exact ej⟩
/-- at the end those that are left are on rounds, the others aren't -/
theorem pr_end {nx : Int → Int} {N : Int} {cm od : Int → Int} {q : Int} (h : pr_I nx N cm od q q) (hin : gr_in nx N) : (∀ c, 0 ≤ c → c < N → (0 < cm c ↔ onc nx c)) ∧ (∀ c, 0 ≤ c → c < N → (¬ onc nx c ↔ pr_pc od q c)) ∧ ∀ i j, 0 ≤ i → i < q → 0 ≤ j → j < q → nx (od i) = od j → i < j := by
  obtain ⟨⟨x0, xq, qN⟩, h1, h2, h3, h4, h5⟩ := h
  have nn : ∀ c, 0 ≤ c → c < N → 0 ≤ cm c := fun c c0 c1 => by rw [h3 c c0 c1]; exact pr_cm_nn
  have a1 : ∀ c, (0 ≤ c ∧ c < N ∧ 0 < cm c) → onc nx c := fun c hc => by
    refine gr_back (N := N) (fun c => 0 ≤ c ∧ c < N ∧ 0 < cm c) (fun c z => ⟨z.1, z.2.1⟩) (fun c z => ?_) hc
    have hs : pr_cm nx N od q c ≠ 0 := by rw [← h3 c z.1 z.2.1]; omega
    obtain ⟨d, d0, d1, e⟩ := mt_sum_ex hs
    have hd : nx d = c ∧ ¬ pr_pc od q d := by
      by_cases y : nx d = c ∧ ¬ pr_pc od q d
      · exact y
      · exact absurd (mt_ch_f y) e
    have hc0 : cm d ≠ 0 := fun y => hd.2 ((h4 d d0 (by omega)).mp y)
    have := nn d d0 (by omega)
    exact ⟨d, ⟨d0, by omega, by omega⟩, hd.1⟩
  have a2 : ∀ (n : Nat) (i : Int), 0 ≤ i → i < n → i < q → ¬ onc nx (od i) := fun n => by
    induction n with
    | zero => intro i z0 z1; omega
    | succ n ih =>
      intro i i0 i1 iq ho
      have hi := h1 i i0 iq
      obtain ⟨t, t0, ht⟩ := id ho
      have hp : nx (gi nx (t - 1) (od i)) = od i := by
        have : gi nx (t - 1 + 1) (od i) = od i := by rw [show t - 1 + 1 = t by omega]; exact ht
        exact this
      have hg := gi_in hin hi.1 hi.2 (t - 1)
      obtain ⟨j, j0, j1, ej⟩ := h5 i i0 iq _ hg.1 hg.2 hp
      refine ih j j0 (by omega) (by omega) ?_
      rw [ej]
      exact onc_gi ho _
  have a3 : ∀ c, 0 ≤ c → c < N → pr_pc od q c → ¬ onc nx c := fun c c0 c1 ⟨i, i0, i1, e⟩ => by rw [← e]; exact a2 (i.toNat + 1) i i0 (by omega) i1
  refine ⟨fun c c0 c1 => ⟨fun z => a1 c ⟨c0, c1, z⟩, fun z => ?_⟩, fun c c0 c1 => ⟨fun z => ?_, a3 c c0 c1⟩, fun i j i0 i1 j0 j1 e => ?_⟩
  · have := nn c c0 c1
    by_cases y : cm c = 0
    · exact absurd z (a3 c c0 c1 ((h4 c c0 c1).mp y))
    · omega
  · by_cases y : cm c = 0
    · exact (h4 c c0 c1).mp y
    · have := nn c c0 c1
      exact absurd (a1 c ⟨c0, c1, by omega⟩) z
  · have hi := h1 i i0 i1
    obtain ⟨k, k0, k1, ek⟩ := h5 j j0 j1 _ hi.1 hi.2 e
    rcases Int.lt_trichotomy k i with z | z | z
    · exact absurd ek (h2 k i k0 z i1)
    · omega
    · exact absurd ek.symm (h2 i k i0 z (by omega))
/-- the first gathering: rows of which none comes -/
def pr_0 (N : Int) (cm od : Int → Int) (q r : Int) : Prop := (0 ≤ q ∧ q ≤ r ∧ r ≤ N) ∧ (∀ i, 0 ≤ i → i < q → 0 ≤ od i ∧ od i < r) ∧ (∀ i j, 0 ≤ i → i < j → j < q → od i < od j) ∧ (∀ c, 0 ≤ c → c < r → (cm c = 0 ↔ pr_pc od q c)) ∧ q = mt_sum (fun c => if cm c = 0 then 1 else 0) r.toNat
theorem pr_0_init {N : Int} {cm od : Int → Int} (hN : 0 ≤ N) : pr_0 N cm od 0 0 := ⟨⟨by omega, by omega, hN⟩, fun i a b => by omega, fun i j a b c => by omega, fun c a b => by omega, rfl⟩
theorem pr_0_A {N : Int} {cm od od' : Int → Int} {q r : Int} (h : pr_0 N cm od q r) (hr : r < N) (hc : cm r = 0) (ho : ∀ i, 0 ≤ i → i < q + 1 → od' i = if i = q then r else od i) : pr_0 N cm od' (q + 1) (r + 1) := by
  obtain ⟨⟨q0, qr, rN⟩, h1, h2, h3, h4⟩ := h
  have hoL : ∀ i, 0 ≤ i → i < q → od' i = od i := fun i a b => by rw [ho i a (by omega), if_neg (by omega)]
  have hoQ : od' q = r := by rw [ho q (by omega) (by omega), if_pos rfl]
  refine ⟨⟨by omega, by omega, by omega⟩, fun i a b => ?_, fun i j a b c => ?_, fun c a b => ?_, ?_⟩
  · by_cases z : i = q
    · rw [z, hoQ]; omega
    · rw [hoL i a (by omega)]; have := h1 i a (by omega); omega
  · rw [hoL i a (by omega)]
    by_cases z : j = q
    · rw [z, hoQ]; exact (h1 i a (by omega)).2
    · rw [hoL j (by omega) (by omega)]; exact h2 i j a b (by omega)
  · by_cases z : c = r
    · rw [z]; exact ⟨fun _ => ⟨q, q0, by omega, hoQ⟩, fun _ => hc⟩
    · rw [h3 c a (by omega)]
      constructor
      · rintro ⟨i, i0, i1, e⟩; exact ⟨i, i0, by omega, by rw [hoL i i0 i1]; exact e⟩
      · rintro ⟨i, i0, i1, e⟩
        by_cases y : i = q
        · rw [y, hoQ] at e; omega
        · exact ⟨i, i0, by omega, by rw [← hoL i i0 (by omega)]; exact e⟩
  · rw [mt_sum_next _ (by omega), if_pos hc, ← h4]
theorem pr_0_B {N : Int} {cm od : Int → Int} {q r : Int} (h : pr_0 N cm od q r) (hr : r < N) (hc : cm r ≠ 0) : pr_0 N cm od q (r + 1) := by
  obtain ⟨⟨q0, qr, rN⟩, h1, h2, h3, h4⟩ := h
  refine ⟨⟨by omega, by omega, by omega⟩, fun i a b => by have := h1 i a b; omega, h2, fun c a b => ?_, ?_⟩
  · by_cases z : c = r
    · rw [z]
      refine ⟨fun y => absurd y hc, fun ⟨i, i0, i1, e⟩ => ?_⟩
      have := h1 i i0 i1
      omega
    · exact h3 c a (by omega)
  · rw [mt_sum_next _ (by omega), if_neg hc, ← h4]; omega
theorem pr_0_end {nx : Int → Int} {N : Int} {cm od : Int → Int} {q : Int} (h : pr_0 N cm od q N) (hc : ∀ c, 0 ≤ c → c < N → cm c = mt_sum (fun d => if nx d = c then 1 else 0) N.toNat) : pr_I nx N cm od q 0 := by
  obtain ⟨⟨q0, qr, rN⟩, h1, h2, h3, h4⟩ := h
  have hcm : ∀ c, 0 ≤ c → c < N → cm c = pr_cm nx N od 0 c := fun c c0 c1 => by
    rw [hc c c0 c1]
    refine mt_sum_eq (fun d _ _ => ?_)
    rw [← mt_ch_dec]
    exact mt_ch_iff ⟨fun z => ⟨z, fun ⟨i, a, b, _⟩ => by omega⟩, fun z => z.1⟩
  refine ⟨⟨by omega, by omega, by omega⟩, h1, fun i j a b c e => by have := h2 i j a b c; omega, hcm, h3, fun i a b d d0 d1 e => ?_⟩
  have hi := h1 i a b
  have hz : cm (od i) = 0 := (h3 _ hi.1 hi.2).mpr ⟨i, a, b, rfl⟩
  rw [hcm _ hi.1 hi.2] at hz
  obtain ⟨j, j0, j1, _⟩ := pr_cm_0 hz d0 d1 e
  omega
