/-! a function on 0 .. N - 1, again and again -/
noncomputable def mt_ch (P : Prop) : Int := @ite Int P (Classical.propDecidable P) 1 0
theorem mt_ch_t {P : Prop} (h : P) : mt_ch P = 1 := by unfold mt_ch; rw [if_pos h]
theorem mt_ch_f {P : Prop} (h : ¬ P) : mt_ch P = 0 := by unfold mt_ch; rw [if_neg h]
theorem mt_ch_in (P : Prop) : 0 ≤ mt_ch P ∧ mt_ch P ≤ 1 := by
  by_cases h : P
  · rw [mt_ch_t h]; omega
  · rw [mt_ch_f h]; omega
theorem mt_ch_iff {P Q : Prop} (h : P ↔ Q) : mt_ch P = mt_ch Q := by rw [propext h]
theorem mt_ch_dec (P : Prop) [Decidable P] : mt_ch P = if P then 1 else 0 := by
  by_cases h : P
  · rw [mt_ch_t h, if_pos h]
  · rw [mt_ch_f h, if_neg h]
def gi (nx : Int → Int) : Nat → Int → Int
  | 0, c => c
  | n + 1, c => nx (gi nx n c)
theorem gi_succ (nx : Int → Int) (c : Int) : ∀ n, gi nx (n + 1) c = gi nx n (nx c)
  | 0 => rfl
  | n + 1 => by show nx (gi nx (n + 1) c) = nx (gi nx n (nx c)); rw [gi_succ nx c n]
theorem gi_add (nx : Int → Int) (c : Int) (m : Nat) : ∀ n, gi nx (n + m) c = gi nx n (gi nx m c)
  | 0 => by rw [Nat.zero_add]; rfl
  | n + 1 => by rw [show n + 1 + m = (n + m) + 1 by omega]; show nx (gi nx (n + m) c) = nx (gi nx n (gi nx m c)); rw [gi_add nx c m n]
theorem gi_comm (nx : Int → Int) (c : Int) (m n : Nat) : gi nx n (gi nx m c) = gi nx m (gi nx n c) := by rw [← gi_add, ← gi_add, Nat.add_comm]
def gr_in (nx : Int → Int) (N : Int) : Prop := ∀ c, 0 ≤ c → c < N → 0 ≤ nx c ∧ nx c < N
theorem gi_in {nx : Int → Int} {N c : Int} (h : gr_in nx N) (h0 : 0 ≤ c) (h1 : c < N) : ∀ n, 0 ≤ gi nx n c ∧ gi nx n c < N
  | 0 => ⟨h0, h1⟩
  | n + 1 => h _ (gi_in h h0 h1 n).1 (gi_in h h0 h1 n).2
/-- on a round -/
def onc (nx : Int → Int) (c : Int) : Prop := ∃ t, 0 < t ∧ gi nx t c = c
theorem onc_gi {nx : Int → Int} {c : Int} (h : onc nx c) (n : Nat) : onc nx (gi nx n c) := by
  obtain ⟨t, t0, e⟩ := h
  exact ⟨t, t0, by rw [gi_comm, e]⟩
/-- no more pigeons than holes -/
theorem gr_ph : ∀ (N n : Nat) (f : Nat → Int), (∀ i, i < n → 0 ≤ f i ∧ f i < N) → (∀ i j, i < j → j < n → f i ≠ f j) → n ≤ N
  | 0, n, f, h, _ => by
    cases n with
    | zero => exact Nat.le_refl 0
    | succ n => have := h 0 (by omega); omega
  | N + 1, n, f, h, hd => by
    by_cases hx : ∃ i, i < n ∧ f i = N
    · obtain ⟨i0, hi0, e0⟩ := hx
      have key := gr_ph N (n - 1) (fun j => if j < i0 then f j else f (j + 1)) (fun i hi => by
          split
          · have h1 := h i (by omega)
            have h2 := hd i i0 (by omega) hi0
            rw [e0] at h2
            omega
          · have h1 := h (i + 1) (by omega)
            have h2 := hd i0 (i + 1) (by omega) (by omega)
            rw [e0] at h2
            omega) (fun i j hij hj => by
          split <;> split
          · exact hd i j hij (by omega)
          · exact hd i (j + 1) (by omega) (by omega)
          · omega
          · exact hd (i + 1) (j + 1) (by omega) (by omega))
      omega
    · have key := gr_ph N n f (fun i hi => by
          have h1 := h i hi
          have h2 : f i ≠ N := fun e => hx ⟨i, hi, e⟩
          omega) hd
      omega
/-- among N + 1 of N two are the same -/
theorem gr_two {N : Int} (f : Nat → Int) (n : Nat) (hn : N ≤ n) (hf : ∀ i, i ≤ n → 0 ≤ f i ∧ f i < N) : ∃ i j, i < j ∧ j ≤ n ∧ f i = f j := by
  by_cases h : ∃ i j, i < j ∧ j ≤ n ∧ f i = f j
  · exact h
  · have := gr_ph N.toNat (n + 1) f (fun i hi => by have := hf i (by omega); omega) (fun i j hij hj e => h ⟨i, j, hij, by omega, e⟩)
    have := hf 0 (by omega)
    omega
theorem gi_mul {nx : Int → Int} {c : Int} {t : Nat} (e : gi nx t c = c) : ∀ k, gi nx (k * t) c = c
  | 0 => by rw [Nat.zero_mul]; rfl
  | k + 1 => by rw [Nat.succ_mul, gi_add, e, gi_mul e k]
/-- one can go on around -/
theorem onc_back {nx : Int → Int} {c : Int} (h : onc nx c) (i : Nat) : ∃ k, gi nx k (gi nx i c) = c := by
  obtain ⟨t, t0, e⟩ := h
  have h1 : i ≤ (i + 1) * t := Nat.le_trans (Nat.le_succ i) (Nat.le_mul_of_pos_right _ t0)
  exact ⟨(i + 1) * t - i, by rw [← gi_add, Nat.sub_add_cancel h1]; exact gi_mul e _⟩
theorem onc_inj {nx : Int → Int} {c : Int} (h : onc nx c) {i j : Nat} (hij : i ≤ j) (e : gi nx i c = gi nx j c) : gi nx (j - i) c = c := by
  obtain ⟨k, hk⟩ := onc_back h i
  have e2 : gi nx k (gi nx j c) = c := by rw [← e]; exact hk
  rw [show j = (j - i) + i by omega, gi_add, gi_comm, hk] at e2
  exact e2
/-- who has always someone before is on a round -/
theorem gr_back {nx : Int → Int} {N : Int} (S : Int → Prop) (hS : ∀ c, S c → 0 ≤ c ∧ c < N) (hb : ∀ c, S c → ∃ d, S d ∧ nx d = c) {c : Int} (hc : S c) : onc nx c := by
  have hp : ∀ c, ∃ d, S c → S d ∧ nx d = c := fun c => by
    by_cases h : S c
    · obtain ⟨d, hd⟩ := hb c h; exact ⟨d, fun _ => hd⟩
    · exact ⟨0, fun z => absurd z h⟩
  obtain ⟨p, hp⟩ := Classical.axiomOfChoice hp
  have hseq : ∀ k, S (gi p k c) := fun k => by
    induction k with
    | zero => exact hc
    | succ k ih => exact (hp _ ih).1
  have hfw : ∀ k i, gi nx k (gi p (k + i) c) = gi p i c := fun k => by
    induction k with
    | zero => intro i; rw [Nat.zero_add]; rfl
    | succ k ih =>
      intro i
      rw [show k + 1 + i = (k + i) + 1 by omega, gi_succ]
      show gi nx k (nx (p (gi p (k + i) c))) = _
      rw [(hp _ (hseq (k + i))).2, ih i]
  obtain ⟨i, j, hij, hj, e⟩ := gr_two (N := N) (fun k => gi p k c) N.toNat (by omega) (fun i _ => hS _ (hseq i))
  have h1 : onc nx (gi p i c) := by
    refine ⟨j - i, by omega, ?_⟩
    have := hfw (j - i) i
    rw [show j - i + i = j by omega] at this
    rw [e]
    rw [e] at this
    exact this
  have h2 := onc_gi h1 i
  have h3 := hfw i 0
  rw [Nat.add_zero] at h3
  rw [h3] at h2
  exact h2
/-- by how many steps one first comes back -/
def gr_per (nx : Int → Int) (c L : Int) : Prop := 0 < L ∧ gi nx L.toNat c = c ∧ ∀ s : Nat, 0 < s → (s : Int) < L → gi nx s c ≠ c
theorem gr_per_uniq {nx : Int → Int} {c L M : Int} (h1 : gr_per nx c L) (h2 : gr_per nx c M) : L = M := by
  obtain ⟨a1, a2, a3⟩ := h1
  obtain ⟨b1, b2, b3⟩ := h2
  rcases Int.lt_trichotomy L M with z | z | z
  · exact absurd a2 (b3 L.toNat (by omega) (by omega))
  · exact z
  · exact absurd b2 (a3 M.toNat (by omega) (by omega))
theorem onc_le {nx : Int → Int} {N c : Int} (hin : gr_in nx N) (h0 : 0 ≤ c) (h1 : c < N) (h : onc nx c) : ∃ t : Nat, 0 < t ∧ (t : Int) ≤ N ∧ gi nx t c = c := by
  obtain ⟨i, j, hij, hj, e⟩ := gr_two (N := N) (fun k => gi nx k c) N.toNat (by omega) (fun i _ => gi_in hin h0 h1 i)
  exact ⟨j - i, by omega, by omega, onc_inj h (by omega) e⟩
/-- how many steps it takes to a round -/
def gr_tl (nx : Int → Int) (c t : Int) : Prop := 0 ≤ t ∧ onc nx (gi nx t.toNat c) ∧ ∀ s : Nat, (s : Int) < t → ¬ onc nx (gi nx s c)
theorem gr_tl_uniq {nx : Int → Int} {c t u : Int} (h1 : gr_tl nx c t) (h2 : gr_tl nx c u) : t = u := by
  obtain ⟨a1, a2, a3⟩ := h1
  obtain ⟨b1, b2, b3⟩ := h2
  rcases Int.lt_trichotomy t u with z | z | z
  · exact absurd a2 (b3 t.toNat (by omega))
  · exact z
  · exact absurd b2 (a3 u.toNat (by omega))
theorem gr_tl_0 {nx : Int → Int} {c : Int} (h : onc nx c) : gr_tl nx c 0 := ⟨Int.le_refl 0, h, fun s hs => by omega⟩
theorem gr_tl_s {nx : Int → Int} {c t : Int} (h : ¬ onc nx c) (ht : gr_tl nx (nx c) t) : gr_tl nx c (t + 1) := by
  obtain ⟨a1, a2, a3⟩ := ht
  refine ⟨by omega, ?_, fun s hs => ?_⟩
  · rw [show (t + 1).toNat = t.toNat + 1 by omega, gi_succ]; exact a2
  · cases s with
    | zero => exact h
    | succ s => rw [gi_succ]; exact a3 s (by omega)
theorem gr_tl_lt {nx : Int → Int} {N c t : Int} (hin : gr_in nx N) (h0 : 0 ≤ c) (h1 : c < N) (h : gr_tl nx c t) : t < N := by
  obtain ⟨a1, a2, a3⟩ := h
  have key := gr_ph N.toNat (t.toNat + 1) (fun k => gi nx k c) (fun i _ => by have := gi_in hin h0 h1 i; omega) (fun i j hij hj e => by
    refine a3 i (by omega) ⟨j - i, by omega, ?_⟩
    rw [← gi_add, show j - i + i = j by omega]
    exact e.symm)
  omega
/-- a row of the round to which c comes -/
def gr_rt (nx : Int → Int) (c r : Int) : Prop := onc nx r ∧ ∃ t, gi nx t c = r
theorem gr_rt_s {nx : Int → Int} {c r : Int} (h : gr_rt nx (nx c) r) : gr_rt nx c r := by
  obtain ⟨a, t, e⟩ := h
  exact ⟨a, t + 1, by rw [gi_succ]; exact e⟩
/-- by how many steps it comes back, once it does -/
def gr_rd (nx : Int → Int) (c L : Int) : Prop := ∃ r, gr_rt nx c r ∧ gr_per nx r L
theorem gr_same {nx : Int → Int} {c r q : Int} (h1 : gr_rt nx c r) (h2 : gr_rt nx c q) : ∃ k, gi nx k r = q := by
  obtain ⟨a1, t, a2⟩ := h1
  obtain ⟨b1, u, b2⟩ := h2
  obtain ⟨k, hk⟩ := onc_back b1 t
  refine ⟨k + u, ?_⟩
  rw [gi_add, ← a2, gi_comm nx c t u, b2]
  exact hk
theorem gr_per_move {nx : Int → Int} {r q L : Int} (k m : Nat) (hk : gi nx k r = q) (hm : gi nx m q = r) (h : gr_per nx r L) : gr_per nx q L := by
  obtain ⟨a1, a2, a3⟩ := h
  refine ⟨a1, by rw [← hk, gi_comm, a2], fun s s0 s1 e => a3 s s0 s1 ?_⟩
  rw [← hm, gi_comm, e]
theorem gr_rd_uniq {nx : Int → Int} {c L M : Int} (h1 : gr_rd nx c L) (h2 : gr_rd nx c M) : L = M := by
  obtain ⟨r, a1, a2⟩ := h1
  obtain ⟨q, b1, b2⟩ := h2
  obtain ⟨k, hk⟩ := gr_same a1 b1
  obtain ⟨m, hm⟩ := gr_same b1 a1
  exact gr_per_uniq (gr_per_move k m hk hm a2) b2
/-- out: it comes to 0, which stays -/
def gr_out (nx : Int → Int) (c : Int) : Prop := ∃ t, gi nx t c = 0
theorem gi_fix {nx : Int → Int} {c : Int} (h : nx c = c) : ∀ n, gi nx n c = c
  | 0 => rfl
  | n + 1 => by show nx (gi nx n c) = c; rw [gi_fix h n, h]
theorem gr_out_rt {nx : Int → Int} {c r : Int} (h0 : nx 0 = 0) (h : gr_rt nx c r) : gr_out nx c ↔ r = 0 := by
  constructor
  · rintro ⟨s, hs⟩
    have h2 : gr_rt nx c 0 := ⟨⟨1, by omega, h0⟩, s, hs⟩
    obtain ⟨k, hk⟩ := gr_same h2 h
    rw [gi_fix h0] at hk
    exact hk.symm
  · intro e
    obtain ⟨-, t, ht⟩ := h
    exact ⟨t, by rw [ht, e]⟩
theorem gr_out_s {nx : Int → Int} {c : Int} (h0 : nx 0 = 0) : gr_out nx c ↔ gr_out nx (nx c) := by
  constructor
  · rintro ⟨t, e⟩
    refine ⟨t, ?_⟩
    rw [← gi_succ]
    show nx (gi nx t c) = 0
    rw [e, h0]
  · rintro ⟨t, e⟩
    exact ⟨t + 1, by rw [gi_succ]; exact e⟩
theorem gr_out_onc {nx : Int → Int} {c : Int} (h0 : nx 0 = 0) (h : onc nx c) : gr_out nx c ↔ c = 0 := gr_out_rt h0 ⟨h, 0, rfl⟩
/-- both the same behind as many steps: the fewest -/
def gr_mt (nx : Int → Int) (a b v : Int) : Prop := (0 ≤ v ∧ gi nx v.toNat a = gi nx v.toNat b ∧ ∀ s : Nat, (s : Int) < v → gi nx s a ≠ gi nx s b) ∨ (v = -9 ∧ ∀ s : Nat, gi nx s a ≠ gi nx s b)
theorem gr_mt_uniq {nx : Int → Int} {a b v w : Int} (h1 : gr_mt nx a b v) (h2 : gr_mt nx a b w) : v = w := by
  rcases h1 with ⟨a1, a2, a3⟩ | ⟨a1, a2⟩ <;> rcases h2 with ⟨b1, b2, b3⟩ | ⟨b1, b2⟩
  · rcases Int.lt_trichotomy v w with z | z | z
    · exact absurd a2 (b3 v.toNat (by omega))
    · exact z
    · exact absurd b2 (a3 w.toNat (by omega))
  · exact absurd a2 (b2 _)
  · exact absurd b2 (a2 _)
  · omega
/-- unlike behind both tails: unlike for ever -/
theorem gr_apart {nx : Int → Int} {a b : Int} {m : Nat} (ha : onc nx (gi nx m a)) (hb : onc nx (gi nx m b)) (h : ∀ s, s ≤ m → gi nx s a ≠ gi nx s b) : ∀ s, gi nx s a ≠ gi nx s b := by
  intro s e
  by_cases hs : s ≤ m
  · exact h s hs e
  · have e1 : gi nx (s - m) (gi nx m a) = gi nx (s - m) (gi nx m b) := by rw [← gi_add, ← gi_add, show s - m + m = s by omega]; exact e
    obtain ⟨t, t0, ht⟩ := ha
    obtain ⟨u, u0, hu⟩ := hb
    have p1 : gi nx (u * t) (gi nx m a) = gi nx m a := gi_mul ht u
    have p2 : gi nx (u * t) (gi nx m b) = gi nx m b := by rw [Nat.mul_comm]; exact gi_mul hu t
    have p0 : 0 < u * t := Nat.mul_pos u0 t0
    have hle : s - m ≤ (s - m) * (u * t) := Nat.le_mul_of_pos_right _ p0
    have q1 := gi_mul p1 (s - m)
    have q2 := gi_mul p2 (s - m)
    rw [show (s - m) * (u * t) = ((s - m) * (u * t) - (s - m)) + (s - m) by omega, gi_add, e1] at q1
    rw [show (s - m) * (u * t) = ((s - m) * (u * t) - (s - m)) + (s - m) by omega, gi_add] at q2
    exact h m (Nat.le_refl m) (q1.symm.trans q2)
