/-! THE MACHINE SEEN FROM FARTHER OFF: values, locals and the world as whole numbers. -/
theorem am_goodIn_r {big : List Cond} (ws : List Cond) (ps : List Nat) (hp : ws = ps.filterMap (fun i => big[i]?)) : ∀ w ∈ ws, w ∈ big := by
  intro w hw
  rw [hp] at hw
  obtain ⟨i, -, hi⟩ := List.mem_filterMap.mp hw
  exact List.mem_of_getElem? hi
/-- a word of the tables that stays -/
def am_T (w : Cond) : Prop := w ∈ lw_tbl ∧ goodWord w = true
theorem am_inT (ws : List Cond) (ps : List Nat) (hp : ws = ps.filterMap (fun i => tables_1[i]?)) (hg : ws.all goodWord = true) : ∀ w ∈ ws, am_T w :=
  fun w hw => ⟨List.mem_append_right _ (am_goodIn_r ws ps hp w hw), List.all_eq_true.mp hg w hw⟩
def am_G : List Cond := lw_tbl.filter goodWord
theorem am_G_iff {w : Cond} : w ∈ am_G ↔ am_T w := List.mem_filter
/-- values: an int, a long, a cell -/
abbrev am_V : Type := Int ⊕ Int ⊕ Int
/-- a world: what stands in a cell at a place -/
abbrev am_H : Type := Int → Int → Int
abbrev am_Q : Type := Option am_V → am_H → am_H → Prop
def am_I (x : Int) : am_V := .inl x
def am_L (x : Int) : am_V := .inr (.inl x)
def am_R (x : Int) : am_V := .inr (.inr x)
def am_okI (x : Int) : Prop := -2147483648 ≤ x ∧ x < 2147483648
def am_okJ (x : Int) : Prop := -9223372036854775808 ≤ x ∧ x < 9223372036854775808
def am_okV (n : Int) (v : am_V) : Prop := match v with
  | .inl x => am_okI x
  | .inr (.inl x) => am_okJ x
  | .inr (.inr x) => x < n
def am_c (ad : Int → Nat) (v : am_V) : Value := match v with
  | .inl x => .int (Int32.ofInt x)
  | .inr (.inl x) => .long (Int64.ofInt x)
  | .inr (.inr x) => .ref (ad x)
theorem am_c_I (ad : Int → Nat) (x : Int) : am_c ad (am_I x) = .int (Int32.ofInt x) := rfl
theorem am_c_L (ad : Int → Nat) (x : Int) : am_c ad (am_L x) = .long (Int64.ofInt x) := rfl
theorem am_c_R (ad : Int → Nat) (x : Int) : am_c ad (am_R x) = .ref (ad x) := rfl
theorem am_toInt {x : Int} (h : am_okI x) : (Int32.ofInt x).toInt = x := Int32.toInt_ofInt_of_le (by have := h.1; omega) (by have := h.2; omega)
theorem am_toIntJ {x : Int} (h : am_okJ x) : (Int64.ofInt x).toInt = x := Int64.toInt_ofInt_of_le (by have := h.1; omega) (by have := h.2; omega)
theorem am_inj {x y : Int} (hx : am_okI x) (hy : am_okI y) : Int32.ofInt x = Int32.ofInt y ↔ x = y := by
  rw [← Int32.toInt_inj, am_toInt hx, am_toInt hy]
theorem am_lt {x y : Int} (hx : am_okI x) (hy : am_okI y) : Int32.ofInt x < Int32.ofInt y ↔ x < y := by
  rw [Int32.lt_iff_toInt_lt, am_toInt hx, am_toInt hy]
theorem am_le {x y : Int} (hx : am_okI x) (hy : am_okI y) : Int32.ofInt x ≤ Int32.ofInt y ↔ x ≤ y := by
  rw [Int32.le_iff_toInt_le, am_toInt hx, am_toInt hy]
theorem am_injJ {x y : Int} (hx : am_okJ x) (hy : am_okJ y) : Int64.ofInt x = Int64.ofInt y ↔ x = y := by
  rw [← Int64.toInt_inj, am_toIntJ hx, am_toIntJ hy]
theorem am_ltJ {x y : Int} (hx : am_okJ x) (hy : am_okJ y) : Int64.ofInt x < Int64.ofInt y ↔ x < y := by
  rw [Int64.lt_iff_toInt_lt, am_toIntJ hx, am_toIntJ hy]
theorem am_ok0 : am_okI 0 := ⟨by decide, by decide⟩
theorem am_0 : Int32.ofInt 0 = 0 := by decide
theorem am_okw (x : Int32) : am_okI x.toInt := ⟨by have := x.le_toInt; omega, by have := x.toInt_lt; omega⟩
theorem am_okwJ (x : Int64) : am_okJ x.toInt := ⟨by have := x.le_toInt; omega, by have := x.toInt_lt; omega⟩
/-- what is left of a number in an int -/
def am_w (x : Int) : Int := (Int32.ofInt x).toInt
theorem am_w_ok (x : Int) : am_okI (am_w x) := am_okw _
theorem am_w_of (x : Int) : Int32.ofInt (am_w x) = Int32.ofInt x := Int32.ofInt_toInt _
theorem am_w_id {x : Int} (h : am_okI x) : am_w x = x := am_toInt h
/-- the listed locals -/
def am_lv (ad : Int → Nat) : Nat → List (Option am_V) → List (Nat × Value)
  | _, [] => []
  | i, none :: t => am_lv ad (i + 1) t
  | i, some v :: t => (i, am_c ad v) :: am_lv ad (i + 1) t
theorem am_lv_mem (ad : Int → Nat) : ∀ (ls : List (Option am_V)) (i : Nat) (q : Nat × Value), q ∈ am_lv ad i ls ↔ ∃ (j : Nat) (v : am_V), ls[j]? = some (some v) ∧ q = (i + j, am_c ad v)
  | [], i, q => by simp [am_lv]
  | none :: t, i, q => by
    rw [am_lv, am_lv_mem ad t (i + 1) q]
    constructor
    · rintro ⟨j, v, h, e⟩
      exact ⟨j + 1, v, by simpa using h, by rw [e]; congr 1; omega⟩
    · rintro ⟨j, v, h, e⟩
      cases j with
      | zero => simp at h
      | succ j => exact ⟨j, v, by simpa using h, by rw [e]; congr 1; omega⟩
  | some w :: t, i, q => by
    rw [am_lv, List.mem_cons, am_lv_mem ad t (i + 1) q]
    constructor
    · rintro (e | ⟨j, v, h, e⟩)
      · exact ⟨0, w, rfl, e⟩
      · exact ⟨j + 1, v, by simpa using h, by rw [e]; congr 1; omega⟩
    · rintro ⟨j, v, h, e⟩
      cases j with
      | zero =>
        simp at h
        subst h
        exact Or.inl e
      | succ j => exact Or.inr ⟨j, v, by simpa using h, by rw [e]; congr 1; omega⟩
theorem am_lv_at {ad : Int → Nat} {ls : List (Option am_V)} {lc : Array Slot} {n k : Nat} {v : am_V} (h : lv_has lc n (am_lv ad 0 ls)) (hk : ls[k]? = some (some v)) : lc[k]? = some (.val (am_c ad v)) :=
  h.2.2 (k, am_c ad v) ((am_lv_mem ad ls 0 _).mpr ⟨k, v, hk, by simp⟩)
/-- no long stands before the place -/
def am_nl (ls : List (Option am_V)) (k : Nat) : Bool := match k with
  | 0 => true
  | k + 1 => match ls[k]? with
    | some (some (.inr (.inl _))) => false
    | _ => true
theorem am_nl_cat {ad : Int → Nat} {ls : List (Option am_V)} {k j : Nat} {v : am_V} (h : am_nl ls k = true) (hj : ls[j]? = some (some v)) (e : j + 1 = k) : ¬ (am_c ad v).category = 2 := by
  subst e
  rcases v with x | x | x
  · intro q; cases q
  · simp [am_nl, hj] at h
  · intro q; cases q
theorem am_lv_store1 {ad : Int → Nat} {ls : List (Option am_V)} {lc : Array Slot} {n k : Nat} {v : am_V} (h : lv_has lc n ((k, am_c ad v) :: (am_lv ad 0 ls).filter (fun q => !(q.1 == k) && !(q.1 + 1 == k && q.2.category == 2)))) (hn : am_nl ls k = true) :
    lv_has lc n (am_lv ad 0 (ls.set k (some v))) := by
  refine ⟨h.1, h.2.1, fun q hq => ?_⟩
  obtain ⟨j, w, hj, rfl⟩ := (am_lv_mem ad _ 0 q).mp hq
  by_cases hjk : j = k
  · subst hjk
    by_cases hl : j < ls.length
    · rw [List.getElem?_set_self hl] at hj
      cases hj
      exact h.2.2 _ (by simp)
    · rw [List.getElem?_eq_none (by simp; omega)] at hj
      cases hj
  · rw [List.getElem?_set_ne (Ne.symm hjk)] at hj
    refine h.2.2 _ (List.mem_cons_of_mem _ (List.mem_filter.mpr ⟨(am_lv_mem ad ls 0 _).mpr ⟨j, w, hj, rfl⟩, ?_⟩))
    simp only [Nat.zero_add]
    by_cases e : j + 1 = k
    · have := am_nl_cat (ad := ad) hn hj e
      simp [hjk, this]
    · simp [hjk, e]
theorem am_lv_store2 {ad : Int → Nat} {ls : List (Option am_V)} {lc : Array Slot} {n k : Nat} {v : am_V} (h : lv_has lc n ((k, am_c ad v) :: (am_lv ad 0 ls).filter (fun q => !(q.1 == k) && (!(q.1 == k + 1) && !(q.1 + 1 == k && q.2.category == 2))))) (hn : am_nl ls k = true) :
    lv_has lc n (am_lv ad 0 ((ls.set k (some v)).set (k + 1) none)) := by
  refine ⟨h.1, h.2.1, fun q hq => ?_⟩
  obtain ⟨j, w, hj, rfl⟩ := (am_lv_mem ad _ 0 q).mp hq
  by_cases hj1 : j = k + 1
  · subst hj1
    by_cases hl : k + 1 < ls.length
    · rw [List.getElem?_set_self (by simpa using hl)] at hj
      cases hj
    · rw [List.getElem?_eq_none (by simp; omega)] at hj
      cases hj
  · rw [List.getElem?_set_ne (Ne.symm hj1)] at hj
    by_cases hjk : j = k
    · subst hjk
      by_cases hl : j < ls.length
      · rw [List.getElem?_set_self hl] at hj
        cases hj
        exact h.2.2 _ (by simp)
      · rw [List.getElem?_eq_none (by simp; omega)] at hj
        cases hj
    · rw [List.getElem?_set_ne (Ne.symm hjk)] at hj
      refine h.2.2 _ (List.mem_cons_of_mem _ (List.mem_filter.mpr ⟨(am_lv_mem ad ls 0 _).mpr ⟨j, w, hj, rfl⟩, ?_⟩))
      simp only [Nat.zero_add]
      by_cases e : j + 1 = k
      · have := am_nl_cat (ad := ad) hn hj e
        simp [hjk, hj1, this]
      · simp [hjk, hj1, e]
theorem am_lv_ext {ad ad' : Int → Nat} (n : Int) (he : ∀ x, x < n → ad' x = ad x) : ∀ (ls : List (Option am_V)) (i : Nat), (∀ v, some v ∈ ls → am_okV n v) → am_lv ad' i ls = am_lv ad i ls
  | [], i, _ => rfl
  | none :: t, i, h => am_lv_ext n he t (i + 1) (fun v hv => h v (List.mem_cons_of_mem _ hv))
  | some w :: t, i, h => by
    have hw := h w List.mem_cons_self
    have e : am_c ad' w = am_c ad w := by
      rcases w with x | x | x
      · rfl
      · rfl
      · show Value.ref (ad' x) = Value.ref (ad x)
        rw [he x hw]
    rw [am_lv, am_lv, e, am_lv_ext n he t (i + 1) (fun v hv => h v (List.mem_cons_of_mem _ hv))]
theorem am_c_ext {ad ad' : Int → Nat} {n : Int} (he : ∀ x, x < n → ad' x = ad x) {v : am_V} (h : am_okV n v) : am_c ad' v = am_c ad v := by
  rcases v with x | x | x
  · rfl
  · rfl
  · show Value.ref (ad' x) = Value.ref (ad x)
    rw [he x h]
theorem am_st_ext {ad ad' : Int → Nat} {n : Int} (he : ∀ x, x < n → ad' x = ad x) {st : List am_V} (h : ∀ v ∈ st, am_okV n v) : st.map (am_c ad') = st.map (am_c ad) :=
  List.map_congr_left fun v hv => am_c_ext he (h v hv)
theorem am_okV_mono {n n' : Int} (h : n ≤ n') {v : am_V} (hv : am_okV n v) : am_okV n' v := by
  rcases v with x | x | x
  · exact hv
  · exact hv
  · exact Int.lt_of_lt_of_le hv h
/-! the world -/
/-- of which kind a cell is: 0 .. 7 a class (vwCl), 8 a row of ints, 9 a row of sheets -/
def am_kinds : List Nat := [8, 6, 9, 4, 8, 4, 8, 4, 8, 4, 8, 3, 8, 8, 8, 3, 8, 8, 8, 0, 3, 8, 8, 8, 8, 8, 8, 8, 8, 5, 8, 8, 8, 2, 8, 8, 8, 1, 7]
def am_K (x : Int) : Nat := am_kinds.getD x.toNat 8
def am_N (ci : Nat) : Nat := [14, 3, 4, 5, 3, 5, 10, 32].getD ci 0
/-- which fields are ints -/
def am_isI (ci k : Nat) : Bool := match ci with
  | 0 => decide (6 ≤ k)
  | 1 => true
  | 2 => decide (k = 3)
  | 3 => decide (k < 2)
  | 4 => decide (k < 2)
  | 5 => decide (3 ≤ k)
  | 6 => decide (7 ≤ k)
  | _ => [0, 1, 2, 3, 6, 7, 8, 18, 19, 20, 21, 23, 31].contains k
def am_fv (ad : Int → Nat) (ρ h : am_H) (ci : Nat) (x : Int) (k : Nat) : Value :=
  if am_isI ci k = true then .int (Int32.ofInt (h x k)) else if ρ x k = 0 then .null else .ref (ad (ρ x k))
def am_E (cI cS : ClassId) (ad : Int → Nat) (ρ h : am_H) (x : Int) : va_E :=
  if am_K x = 8 then .inl (cI, ((ρ x (-1)).toNat, .inl (fun j => Int32.ofInt (h x j))))
  else if am_K x = 9 then .inl (cS, ((ρ x (-1)).toNat, .inr (.inr (.inr (.inr (fun j => if ρ x j = 0 then none else some (ad (ρ x j))))))))
  else .inr (am_K x, (List.range (am_N (am_K x))).map (am_fv ad ρ h (am_K x) x))
def am_ws (cI cS : ClassId) (ad : Int → Nat) (ρ h : am_H) : va_W := (List.range ((ρ 0 0).toNat - 1)).map (fun (j : Nat) => (ad ((j : Int) + 1), am_E cI cS ad ρ h ((j : Int) + 1)))
theorem am_ws_len (cI cS : ClassId) (ad : Int → Nat) (ρ h : am_H) : (am_ws cI cS ad ρ h).length = (ρ 0 0).toNat - 1 := by simp [am_ws]
theorem am_ws_get {cI cS : ClassId} {ad : Int → Nat} {ρ h : am_H} {x : Int} (h0 : 0 < x) (h1 : x < ρ 0 0) : (am_ws cI cS ad ρ h)[x.toNat - 1]? = some (ad x, am_E cI cS ad ρ h x) := by
  rw [am_ws, List.getElem?_map, List.getElem?_range (by omega)]
  have : ((x.toNat - 1 : Nat) : Int) + 1 = x := by omega
  simp [this]
theorem am_ws_at {cI cS : ClassId} {ad : Int → Nat} {ρ h : am_H} {k : Nat} {q : Nat × va_E} (hk : (am_ws cI cS ad ρ h)[k]? = some q) : (k : Int) + 1 < ρ 0 0 ∧ q = (ad ((k : Int) + 1), am_E cI cS ad ρ h ((k : Int) + 1)) := by
  have hl := (List.getElem?_eq_some_iff.mp hk).1
  rw [am_ws_len] at hl
  rw [am_ws, List.getElem?_map, List.getElem?_range (by omega)] at hk
  refine ⟨by omega, ?_⟩
  simpa using hk.symm
theorem am_ws_set {cI cS : ClassId} {ad : Int → Nat} {ρ h ρ' h' : am_H} {x : Int} (h0 : 0 < x) (hn : ρ' 0 0 = ρ 0 0) (he : ∀ y, 0 < y → y ≠ x → am_E cI cS ad ρ' h' y = am_E cI cS ad ρ h y) :
    am_ws cI cS ad ρ' h' = (am_ws cI cS ad ρ h).set (x.toNat - 1) (ad x, am_E cI cS ad ρ' h' x) := by
  apply List.ext_getElem?
  intro k
  by_cases hk : k < (ρ 0 0).toNat - 1
  · have hk' : k < (ρ' 0 0).toNat - 1 := by rw [hn]; exact hk
    have e1 : (am_ws cI cS ad ρ' h')[k]? = some (ad ((k : Int) + 1), am_E cI cS ad ρ' h' ((k : Int) + 1)) := by
      rw [am_ws, List.getElem?_map, List.getElem?_range hk']
      rfl
    have e2 : (am_ws cI cS ad ρ h)[k]? = some (ad ((k : Int) + 1), am_E cI cS ad ρ h ((k : Int) + 1)) := by
      rw [am_ws, List.getElem?_map, List.getElem?_range hk]
      rfl
    rw [e1]
    by_cases hx : k = x.toNat - 1
    · have : (k : Int) + 1 = x := by omega
      rw [hx, List.getElem?_set_self (by rw [am_ws_len]; omega), ← hx, this]
    · rw [List.getElem?_set_ne (Ne.symm hx), e2, he _ (by omega) (by omega)]
  · rw [List.getElem?_eq_none (by rw [am_ws_len, hn]; omega), List.getElem?_eq_none (by rw [List.length_set, am_ws_len]; omega)]
theorem am_ws_push {cI cS : ClassId} {ad ad' : Int → Nat} {ρ h ρ' h' : am_H} (h0 : 0 < ρ 0 0) (hn : ρ' 0 0 = ρ 0 0 + 1) (ha : ∀ y, y < ρ 0 0 → ad' y = ad y) (he : ∀ y, 0 < y → y < ρ 0 0 → am_E cI cS ad' ρ' h' y = am_E cI cS ad ρ h y) :
    am_ws cI cS ad' ρ' h' = am_ws cI cS ad ρ h ++ [(ad' (ρ 0 0), am_E cI cS ad' ρ' h' (ρ 0 0))] := by
  rw [am_ws, hn, show (ρ 0 0 + 1).toNat - 1 = ((ρ 0 0).toNat - 1) + 1 by omega, List.range_succ, List.map_append]
  congr 1
  · rw [am_ws]
    apply List.map_congr_left
    intro j hj
    have hj := List.mem_range.mp hj
    rw [ha _ (by omega), he _ (by omega) (by omega)]
  · have : (((ρ 0 0).toNat - 1 : Nat) : Int) + 1 = ρ 0 0 := by omega
    simp [this]
/-- one place written anew -/
def am_u (h : am_H) (x k v : Int) : am_H := fun y j => if y = x ∧ j = k then v else h y j
theorem am_u_s (h : am_H) (x k v : Int) : am_u h x k v x k = v := by simp [am_u]
theorem am_u_n {h : am_H} {x k v y j : Int} (e : ¬ (y = x ∧ j = k)) : am_u h x k v y j = h y j := by simp [am_u, e]
/-- a new cell -/
def am_newR (ρ : am_H) (len : Int) : am_H := fun y j => if y = ρ 0 0 then (if j = -1 then len else 0) else if y = 0 ∧ j = 0 then ρ 0 0 + 1 else ρ y j
def am_newH (ρ h : am_H) : am_H := fun y j => if y = ρ 0 0 then 0 else h y j
def am_rng (ρ h : am_H) : Prop := 0 < ρ 0 0 ∧ (∀ x k, am_okI (h x k)) ∧ (∀ x, 0 ≤ ρ x (-1) ∧ ρ x (-1) < 2147483648) ∧ ∀ x k, 0 < x → 0 ≤ k → 0 ≤ ρ x k ∧ ρ x k < ρ 0 0
theorem am_E_ext {cI cS : ClassId} {ad ad' : Int → Nat} {ρ h ρ' h' : am_H} {x n : Int} (hx : 0 < x) (hn : ∀ k, 0 ≤ k → ρ x k < n) (ha : ∀ y, y < n → ad' y = ad y) (e1 : ∀ k, ρ' x k = ρ x k) (e2 : ∀ k, 0 ≤ k → h' x k = h x k) : am_E cI cS ad' ρ' h' x = am_E cI cS ad ρ h x := by
  unfold am_E
  split
  · rw [e1]
    congr 3
    congr 1
    funext j
    rw [e2 j (by omega)]
  · split
    · have e3 : (fun j : Nat => if ρ' x j = 0 then none else some (ad' (ρ' x j))) = (fun j : Nat => if ρ x j = 0 then none else some (ad (ρ x j))) := funext fun j => by rw [e1, ha _ (hn j (by omega))]
      rw [e1, e3]
    · congr 2
      apply List.map_congr_left
      intro k _
      unfold am_fv
      rw [e1, e2 k (by omega), ha _ (hn k (by omega))]
theorem am_map_set {α : Type} (f g : Nat → α) (N k : Nat) (v : α) (hv : g k = v) (he : ∀ j, j ≠ k → g j = f j) : (List.range N).map g = ((List.range N).map f).set k v := by
  apply List.ext_getElem?
  intro j
  by_cases hj : j < N
  · rw [List.getElem?_map, List.getElem?_range hj]
    by_cases e : j = k
    · subst e
      rw [List.getElem?_set_self (by simpa using hj)]
      simp [hv]
    · rw [List.getElem?_set_ne (Ne.symm e), List.getElem?_map, List.getElem?_range hj]
      simp [he j e]
  · rw [List.getElem?_eq_none (by simpa using hj), List.getElem?_eq_none (by simpa using hj)]
