/-! worlds that are told by lists: for the constructors -/
def tb : List (Int × Int × Int) → Int → Int → Int
  | [], _, _ => 0
  | q :: t, y, j => if y = q.1 ∧ j = q.2.1 then q.2.2 else tb t y j
theorem tb_out {n y j : Int} (hy : n ≤ y) : ∀ {L : List (Int × Int × Int)}, (∀ q ∈ L, q.1 < n) → tb L y j = 0
  | [], _ => rfl
  | q :: t, h => by
    have h1 := h q List.mem_cons_self
    show (if y = q.1 ∧ j = q.2.1 then q.2.2 else tb t y j) = 0
    rw [if_neg (by omega)]
    exact tb_out hy (fun q hq => h q (List.mem_cons_of_mem _ hq))
def wd (ρ h : am_H) (n : Int) (L K : List (Int × Int × Int)) : Prop := (0 < n ∧ ρ 0 0 = n) ∧ (∀ y j, 0 < y → y < n → ρ y j = tb L y j) ∧ (∀ y j, 0 < y → y < n → h y j = tb K y j) ∧ (∀ q ∈ L, q.1 < n) ∧ ∀ q ∈ K, q.1 < n
theorem wd_nw {ρ h : am_H} {n len : Int} {L K : List (Int × Int × Int)} (w : wd ρ h n L K) : wd (am_newR ρ len) (am_newH ρ h) (n + 1) ((n, -1, len) :: L) K := by
  obtain ⟨⟨a1, a2⟩, b, c, d, e⟩ := w
  refine ⟨⟨by omega, by rw [am_newR_n len (by omega), a2]⟩, fun y j y0 y1 => ?_, fun y j y0 y1 => ?_, fun q hq => ?_, fun q hq => ?_⟩
  · show _ = if y = n ∧ j = -1 then len else tb L y j
    by_cases z : y = n
    · unfold am_newR
      rw [if_pos (by omega)]
      by_cases u : j = -1
      · rw [if_pos u, if_pos ⟨z, u⟩]
      · rw [if_neg u, if_neg (fun v => u v.2), tb_out (n := n) (by omega) d]
    · rw [am_newR_o y0 (by omega), if_neg (fun v => z v.1)]
      exact b y j y0 (by omega)
  · unfold am_newH
    by_cases z : y = n
    · rw [if_pos (by omega), tb_out (n := n) (by omega) e]
    · rw [if_neg (by omega)]
      exact c y j y0 (by omega)
  · rcases List.mem_cons.mp hq with rfl | z
    · show n < n + 1
      omega
    · have := d q z
      omega
  · have := e q hq
    omega
theorem wd_ur {ρ h : am_H} {n x k v : Int} {L K : List (Int × Int × Int)} (w : wd ρ h n L K) (hx : 0 < x ∧ x < n) : wd (am_u ρ x k v) h n ((x, k, v) :: L) K := by
  obtain ⟨⟨a1, a2⟩, b, c, d, e⟩ := w
  refine ⟨⟨a1, by rw [am_u_n (by omega)]; exact a2⟩, fun y j y0 y1 => ?_, c, fun q hq => ?_, e⟩
  · show am_u ρ x k v y j = if y = x ∧ j = k then v else tb L y j
    unfold am_u
    rw [b y j y0 y1]
  · rcases List.mem_cons.mp hq with rfl | z
    · exact hx.2
    · exact d q z
theorem wd_uh {ρ h : am_H} {n x k v : Int} {L K : List (Int × Int × Int)} (w : wd ρ h n L K) (hx : 0 < x ∧ x < n) : wd ρ (am_u h x k v) n L ((x, k, v) :: K) := by
  obtain ⟨⟨a1, a2⟩, b, c, d, e⟩ := w
  refine ⟨⟨a1, a2⟩, b, fun y j y0 y1 => ?_, d, fun q hq => ?_⟩
  · show am_u h x k v y j = if y = x ∧ j = k then v else tb K y j
    unfold am_u
    rw [c y j y0 y1]
  · rcases List.mem_cons.mp hq with rfl | z
    · exact hx.2
    · exact e q z
section AMR
variable {M : am_M} {bc bs bc0 bs0 pc pc' k : Nat} {ls : List (Option am_V)} {st : List am_V} {ρ h : am_H} {Q : am_Q} {n len : Int} {L K : List (Int × Int × Int)}
theorem wd_newarr (w : wd ρ h n L K) (hk0 : len.toNat = k) (hb : bc0 = bc + 1) (hs : bs0 = bs + k) (hd : decode M.2.1 pc = .ok (.newarray .int, 2)) (hp : pc + 2 = pc') (hw : am_T (.arrayClass .int)) (h0 : 0 ≤ len) (h1 : len ≤ 100000000) (hk : am_K n = 8)
    (kk : ∀ ρ' h', wd ρ' h' (n + 1) ((n, -1, len) :: L) K → am_WP M bc bs pc' ls (am_R n :: st) ρ' h' Q) : am_WP M bc0 bs0 pc ls (am_I len :: st) ρ h Q := by
  subst hk0
  subst hb
  subst hs
  refine am_newarr hd hp hw h0 h1 (by rw [w.1.2]; exact hk) ?_
  rw [w.1.2]
  exact kk _ _ (wd_nw w)
theorem wd_newsh {idx : Nat} (w : wd ρ h n L K) (hk0 : len.toNat = k) (hb : bc0 = bc + 1) (hs : bs0 = bs + k) (hd : decode M.2.1 pc = .ok (.anewarray idx, 3)) (hp : pc + 3 = pc') (hw : am_T (.classLink M.1.cls idx RX4)) (h0 : 0 ≤ len) (h1 : len ≤ 100000000) (hk : am_K n = 9)
    (kk : ∀ ρ' h', wd ρ' h' (n + 1) ((n, -1, len) :: L) K → am_WP M bc bs pc' ls (am_R n :: st) ρ' h' Q) : am_WP M bc0 bs0 pc ls (am_I len :: st) ρ h Q := by
  subst hk0
  subst hb
  subst hs
  refine am_newsh hd hp hw h0 h1 (by rw [w.1.2]; exact hk) ?_
  rw [w.1.2]
  exact kk _ _ (wd_nw w)
theorem wd_newo {idx ci N : Nat} {C : String} {T : u_T} (w : wd ρ h n L K) (hb : bc0 = bc + 1) (hs : bs0 = bs + N) (hd : decode M.2.1 pc = .ok (.new idx, 3)) (hp : pc + 3 = pc') (hc : vwCl[ci]? = some (C, T, N)) (hw : am_T (.classLink M.1.cls idx C)) (hw2 : am_T (.instantiable C N)) (hw3 : am_T (.initialized C)) (hk : am_K n = ci)
    (kk : ∀ ρ' h', wd ρ' h' (n + 1) ((n, -1, 0) :: L) K → am_WP M bc bs pc' ls (am_R n :: st) ρ' h' Q) : am_WP M bc0 bs0 pc ls st ρ h Q := by
  subst hb
  subst hs
  refine am_new hd hp hc hw hw2 hw3 (by rw [w.1.2]; exact hk) ?_
  rw [w.1.2]
  exact kk _ _ (wd_nw w)
theorem wd_putI {x v ki : Int} {ci idx : Nat} (w : wd ρ h n L K) (e : ((k : Nat) : Int) = ki) (hd : decode M.2.1 pc = .ok (.putfield idx, 3)) (hp : pc + 3 = pc') (lk : am_fl M.1.cls idx ci k) (hx : 0 < x ∧ x < n ∧ am_K x = ci) (hI : am_isI ci k = true) (hfin : ∀ C T N, vwCl[ci]? = some (C, T, N) → (T k).2.2.2 = false)
    (kk : ∀ h', wd ρ h' n L ((x, ki, v) :: K) → am_WP M bc bs pc' ls st ρ h' Q) : am_WP M bc bs pc ls (am_I v :: am_R x :: st) ρ h Q :=
  am_putIk e hd hp lk ⟨hx.1, by rw [w.1.2]; exact hx.2.1, hx.2.2⟩ hI hfin (kk _ (wd_uh w ⟨hx.1, hx.2.1⟩))
theorem wd_putR {x v ki : Int} {ci idx : Nat} (w : wd ρ h n L K) (e : ((k : Nat) : Int) = ki) (hd : decode M.2.1 pc = .ok (.putfield idx, 3)) (hp : pc + 3 = pc') (lk : am_fl M.1.cls idx ci k) (hx : 0 < x ∧ x < n ∧ am_K x = ci) (hI : am_isI ci k = false) (hv0 : 0 < v) (hfin : ∀ C T N, vwCl[ci]? = some (C, T, N) → (T k).2.2.2 = false)
    (kk : ∀ ρ', wd ρ' h n ((x, ki, v) :: L) K → am_WP M bc bs pc' ls st ρ' h Q) : am_WP M bc bs pc ls (am_R v :: am_R x :: st) ρ h Q :=
  am_putRk e hd hp lk ⟨hx.1, by rw [w.1.2]; exact hx.2.1, hx.2.2⟩ hI hv0 hfin (kk _ (wd_ur w ⟨hx.1, hx.2.1⟩))
theorem wd_putF {x v ki : Int} {ci idx : Nat} (w : wd ρ h n L K) (e : ((k : Nat) : Int) = ki) (hd : decode M.2.1 pc = .ok (.putfield idx, 3)) (hp : pc + 3 = pc') (lk : am_fl M.1.cls idx ci k) (hx : 0 < x ∧ x < n ∧ am_K x = ci) (hI : am_isI ci k = false) (hv0 : 0 < v) (hfin : ∀ C T N, vwCl[ci]? = some (C, T, N) → (T k).2.2.2 = true ∧ (T k).1 = M.1.cls) (hin2 : M.1.name = "<init>")
    (kk : ∀ ρ', wd ρ' h n ((x, ki, v) :: L) K → am_WP M bc bs pc' ls st ρ' h Q) : am_WP M bc bs pc ls (am_R v :: am_R x :: st) ρ h Q :=
  am_putFk e hd hp lk ⟨hx.1, by rw [w.1.2]; exact hx.2.1, hx.2.2⟩ hI hv0 hfin hin2 (kk _ (wd_ur w ⟨hx.1, hx.2.1⟩))
end AMR
theorem t4_init {ρ h : am_H} {x : Int} {L K : List (Int × Int × Int)} (hx : 0 < x) (k0 : am_K x = 4) (k1 : am_K (x + 1) = 8) (W : wd ρ h (x + 1) L K) : am_CT mX4_init 1 60 [am_R x] ρ h (fun r ρ' h' => r = none ∧ wd ρ' h' (x + 1 + 1) ((x, 2, x + 1) :: (x + 1, -1, 60) :: L) ((x, 1, 0) :: (x, 0, -1) :: K)) := by
  refine am_ct (ls := [some (am_R x)]) ok_X4_init rfl (fun _ => Nat.le_of_ble_eq_true rfl) (fun _ => rfl) (by intro v hv; simpa using hv) ?_
  refine am_aload_n (pc' := 1) dX4_init_0 rfl rfl rfl ?_
  refine am_obji (pc' := 4) dX4_init_1 rfl ml_X4_3 im_Object co_Object (Nat.le_of_ble_eq_true rfl) rfl ?_
  refine am_aload_n (pc' := 5) dX4_init_4 rfl rfl rfl ?_
  refine am_iconst (pc' := 6) dX4_init_5 rfl rfl ?_
  refine wd_putI (ki := 0) (pc' := 9) (k := 0) (ci := 4) W rfl dX4_init_6 rfl fl_X4_11 ⟨by omega, by omega, by first | assumption | rfl⟩ rfl (fun _ _ _ e => by cases e; rfl) (fun h W => ?_)
  refine am_aload_n (pc' := 10) dX4_init_9 rfl rfl rfl ?_
  refine am_iconst (pc' := 11) dX4_init_10 rfl rfl ?_
  refine wd_putI (ki := 1) (pc' := 14) (k := 1) (ci := 4) W rfl dX4_init_11 rfl fl_X4_15 ⟨by omega, by omega, by first | assumption | rfl⟩ rfl (fun _ _ _ e => by cases e; rfl) (fun h W => ?_)
  refine am_aload_n (pc' := 15) dX4_init_14 rfl rfl rfl ?_
  refine am_bipush (pc' := 17) dX4_init_15 rfl rfl (by decide) ?_
  refine wd_newarr (pc' := 19) (len := 60) (k := 60) W rfl rfl rfl dX4_init_17 rfl ac_int (by decide) (by decide) (by first | assumption | rfl) (fun ρ h W => ?_)
  refine wd_putF (ki := 2) (pc' := 22) (k := 2) (ci := 4) W rfl dX4_init_19 rfl fl_X4_18 ⟨by omega, by omega, by first | assumption | rfl⟩ rfl (by omega) (fun _ _ _ e => by cases e; exact ⟨rfl, rfl⟩) rfl (fun ρ W => ?_)
  refine am_retv dX4_init_22 rfl ?_
  exact ⟨rfl, W⟩
theorem t3_init {ρ h : am_H} {x : Int} {L K : List (Int × Int × Int)} (hx : 0 < x) (k0 : am_K x = 3) (k1 : am_K (x + 1) = 8) (k2 : am_K (x + 1 + 1) = 8) (k3 : am_K (x + 1 + 1 + 1) = 8) (W : wd ρ h (x + 1) L K) : am_CT mX3_init 3 15 [am_R x] ρ h (fun r ρ' h' => r = none ∧ wd ρ' h' (x + 1 + 1 + 1 + 1) ((x, 4, x + 1 + 1 + 1) :: (x + 1 + 1 + 1, -1, 5) :: (x, 3, x + 1 + 1) :: (x + 1 + 1, -1, 5) :: (x, 2, x + 1) :: (x + 1, -1, 5) :: L) ((x, 1, 0) :: (x, 0, 0) :: K)) := by
  refine am_ct (ls := [some (am_R x)]) ok_X3_init rfl (fun _ => Nat.le_of_ble_eq_true rfl) (fun _ => rfl) (by intro v hv; simpa using hv) ?_
  refine am_aload_n (pc' := 1) dX3_init_0 rfl rfl rfl ?_
  refine am_obji (pc' := 4) dX3_init_1 rfl ml_X3_3 im_Object co_Object (Nat.le_of_ble_eq_true rfl) rfl ?_
  refine am_aload_n (pc' := 5) dX3_init_4 rfl rfl rfl ?_
  refine am_iconst (pc' := 6) dX3_init_5 rfl rfl ?_
  refine wd_putI (ki := 0) (pc' := 9) (k := 0) (ci := 3) W rfl dX3_init_6 rfl fl_X3_9 ⟨by omega, by omega, by first | assumption | rfl⟩ rfl (fun _ _ _ e => by cases e; rfl) (fun h W => ?_)
  refine am_aload_n (pc' := 10) dX3_init_9 rfl rfl rfl ?_
  refine am_iconst (pc' := 11) dX3_init_10 rfl rfl ?_
  refine wd_putI (ki := 1) (pc' := 14) (k := 1) (ci := 3) W rfl dX3_init_11 rfl fl_X3_15 ⟨by omega, by omega, by first | assumption | rfl⟩ rfl (fun _ _ _ e => by cases e; rfl) (fun h W => ?_)
  refine am_aload_n (pc' := 15) dX3_init_14 rfl rfl rfl ?_
  refine am_iconst (pc' := 16) dX3_init_15 rfl rfl ?_
  refine wd_newarr (pc' := 18) (len := 5) (k := 5) W rfl rfl rfl dX3_init_16 rfl ac_int (by decide) (by decide) (by first | assumption | rfl) (fun ρ h W => ?_)
  refine wd_putF (ki := 2) (pc' := 21) (k := 2) (ci := 3) W rfl dX3_init_18 rfl fl_X3_18 ⟨by omega, by omega, by first | assumption | rfl⟩ rfl (by omega) (fun _ _ _ e => by cases e; exact ⟨rfl, rfl⟩) rfl (fun ρ W => ?_)
  refine am_aload_n (pc' := 22) dX3_init_21 rfl rfl rfl ?_
  refine am_iconst (pc' := 23) dX3_init_22 rfl rfl ?_
  refine wd_newarr (pc' := 25) (len := 5) (k := 5) W rfl rfl rfl dX3_init_23 rfl ac_int (by decide) (by decide) (by first | assumption | rfl) (fun ρ h W => ?_)
  refine wd_putF (ki := 3) (pc' := 28) (k := 3) (ci := 3) W rfl dX3_init_25 rfl fl_X3_22 ⟨by omega, by omega, by first | assumption | rfl⟩ rfl (by omega) (fun _ _ _ e => by cases e; exact ⟨rfl, rfl⟩) rfl (fun ρ W => ?_)
  refine am_aload_n (pc' := 29) dX3_init_28 rfl rfl rfl ?_
  refine am_iconst (pc' := 30) dX3_init_29 rfl rfl ?_
  refine wd_newarr (pc' := 32) (len := 5) (k := 5) W rfl rfl rfl dX3_init_30 rfl ac_int (by decide) (by decide) (by first | assumption | rfl) (fun ρ h W => ?_)
  refine wd_putF (ki := 4) (pc' := 35) (k := 4) (ci := 3) W rfl dX3_init_32 rfl fl_X3_25 ⟨by omega, by omega, by first | assumption | rfl⟩ rfl (by omega) (fun _ _ _ e => by cases e; exact ⟨rfl, rfl⟩) rfl (fun ρ W => ?_)
  refine am_retv dX3_init_35 rfl ?_
  exact ⟨rfl, W⟩
theorem t5_init {ρ h : am_H} {L K : List (Int × Int × Int)} (W : wd ρ h 30 L K) : am_CT mX5_init 3 0 [am_R 29] ρ h (fun r ρ' h' => r = none ∧ wd ρ' h' 33 ((29, 2, 32) :: (32, -1, 0) :: (29, 1, 31) :: (31, -1, 0) :: (29, 0, 30) :: (30, -1, 0) :: L) ((29, 4, -9) :: (29, 3, 0) :: K)) := by
  refine am_ct (ls := [some (am_R 29)]) ok_X5_init rfl (fun _ => Nat.le_of_ble_eq_true rfl) (fun _ => rfl) (by intro v hv; simpa using hv) ?_
  refine am_aload_n (pc' := 1) dX5_init_0 rfl rfl rfl ?_
  refine am_obji (pc' := 4) dX5_init_1 rfl ml_X5_3 im_Object co_Object (Nat.le_of_ble_eq_true rfl) rfl ?_
  refine am_aload_n (pc' := 5) dX5_init_4 rfl rfl rfl ?_
  refine am_iconst (pc' := 6) dX5_init_5 rfl rfl ?_
  refine wd_newarr (pc' := 8) (len := 0) (k := 0) W rfl rfl rfl dX5_init_6 rfl ac_int (by decide) (by decide) (by first | assumption | rfl) (fun ρ h W => ?_)
  refine wd_putR (ki := 0) (pc' := 11) (k := 0) (ci := 5) W rfl dX5_init_8 rfl fl_X5_9 ⟨by omega, by omega, by first | assumption | rfl⟩ rfl (by omega) (fun _ _ _ e => by cases e; rfl) (fun ρ W => ?_)
  refine am_aload_n (pc' := 12) dX5_init_11 rfl rfl rfl ?_
  refine am_iconst (pc' := 13) dX5_init_12 rfl rfl ?_
  refine wd_newarr (pc' := 15) (len := 0) (k := 0) W rfl rfl rfl dX5_init_13 rfl ac_int (by decide) (by decide) (by first | assumption | rfl) (fun ρ h W => ?_)
  refine wd_putR (ki := 1) (pc' := 18) (k := 1) (ci := 5) W rfl dX5_init_15 rfl fl_X5_15 ⟨by omega, by omega, by first | assumption | rfl⟩ rfl (by omega) (fun _ _ _ e => by cases e; rfl) (fun ρ W => ?_)
  refine am_aload_n (pc' := 19) dX5_init_18 rfl rfl rfl ?_
  refine am_iconst (pc' := 20) dX5_init_19 rfl rfl ?_
  refine wd_newarr (pc' := 22) (len := 0) (k := 0) W rfl rfl rfl dX5_init_20 rfl ac_int (by decide) (by decide) (by first | assumption | rfl) (fun ρ h W => ?_)
  refine wd_putR (ki := 2) (pc' := 25) (k := 2) (ci := 5) W rfl dX5_init_22 rfl fl_X5_18 ⟨by omega, by omega, by first | assumption | rfl⟩ rfl (by omega) (fun _ _ _ e => by cases e; rfl) (fun ρ W => ?_)
  refine am_aload_n (pc' := 26) dX5_init_25 rfl rfl rfl ?_
  refine am_iconst (pc' := 27) dX5_init_26 rfl rfl ?_
  refine wd_putI (ki := 3) (pc' := 30) (k := 3) (ci := 5) W rfl dX5_init_27 rfl fl_X5_21 ⟨by omega, by omega, by first | assumption | rfl⟩ rfl (fun _ _ _ e => by cases e; rfl) (fun h W => ?_)
  refine am_aload_n (pc' := 31) dX5_init_30 rfl rfl rfl ?_
  refine am_bipush (pc' := 33) dX5_init_31 rfl rfl (by decide) ?_
  refine wd_putI (ki := 4) (pc' := 36) (k := 4) (ci := 5) W rfl dX5_init_33 rfl fl_X5_25 ⟨by omega, by omega, by first | assumption | rfl⟩ rfl (fun _ _ _ e => by cases e; rfl) (fun h W => ?_)
  refine am_retv dX5_init_36 rfl ?_
  exact ⟨rfl, W⟩
theorem t2_init {ρ h : am_H} {L K : List (Int × Int × Int)} (W : wd ρ h 34 L K) : am_CT mX2_init 3 24 [am_R 33] ρ h (fun r ρ' h' => r = none ∧ wd ρ' h' 37 ((33, 2, 36) :: (36, -1, 8) :: (33, 1, 35) :: (35, -1, 8) :: (33, 0, 34) :: (34, -1, 8) :: L) ((33, 3, 0) :: K)) := by
  refine am_ct (ls := [some (am_R 33)]) ok_X2_init rfl (fun _ => Nat.le_of_ble_eq_true rfl) (fun _ => rfl) (by intro v hv; simpa using hv) ?_
  refine am_aload_n (pc' := 1) dX2_init_0 rfl rfl rfl ?_
  refine am_obji (pc' := 4) dX2_init_1 rfl ml_X2_3 im_Object co_Object (Nat.le_of_ble_eq_true rfl) rfl ?_
  refine am_aload_n (pc' := 5) dX2_init_4 rfl rfl rfl ?_
  refine am_bipush (pc' := 7) dX2_init_5 rfl rfl (by decide) ?_
  refine wd_newarr (pc' := 9) (len := 8) (k := 8) W rfl rfl rfl dX2_init_7 rfl ac_int (by decide) (by decide) (by first | assumption | rfl) (fun ρ h W => ?_)
  refine wd_putF (ki := 0) (pc' := 12) (k := 0) (ci := 2) W rfl dX2_init_9 rfl fl_X2_9 ⟨by omega, by omega, by first | assumption | rfl⟩ rfl (by omega) (fun _ _ _ e => by cases e; exact ⟨rfl, rfl⟩) rfl (fun ρ W => ?_)
  refine am_aload_n (pc' := 13) dX2_init_12 rfl rfl rfl ?_
  refine am_bipush (pc' := 15) dX2_init_13 rfl rfl (by decide) ?_
  refine wd_newarr (pc' := 17) (len := 8) (k := 8) W rfl rfl rfl dX2_init_15 rfl ac_int (by decide) (by decide) (by first | assumption | rfl) (fun ρ h W => ?_)
  refine wd_putF (ki := 1) (pc' := 20) (k := 1) (ci := 2) W rfl dX2_init_17 rfl fl_X2_15 ⟨by omega, by omega, by first | assumption | rfl⟩ rfl (by omega) (fun _ _ _ e => by cases e; exact ⟨rfl, rfl⟩) rfl (fun ρ W => ?_)
  refine am_aload_n (pc' := 21) dX2_init_20 rfl rfl rfl ?_
  refine am_bipush (pc' := 23) dX2_init_21 rfl rfl (by decide) ?_
  refine wd_newarr (pc' := 25) (len := 8) (k := 8) W rfl rfl rfl dX2_init_23 rfl ac_int (by decide) (by decide) (by first | assumption | rfl) (fun ρ h W => ?_)
  refine wd_putF (ki := 2) (pc' := 28) (k := 2) (ci := 2) W rfl dX2_init_25 rfl fl_X2_18 ⟨by omega, by omega, by first | assumption | rfl⟩ rfl (by omega) (fun _ _ _ e => by cases e; exact ⟨rfl, rfl⟩) rfl (fun ρ W => ?_)
  refine am_aload_n (pc' := 29) dX2_init_28 rfl rfl rfl ?_
  refine am_iconst (pc' := 30) dX2_init_29 rfl rfl ?_
  refine wd_putI (ki := 3) (pc' := 33) (k := 3) (ci := 2) W rfl dX2_init_30 rfl fl_X2_21 ⟨by omega, by omega, by first | assumption | rfl⟩ rfl (fun _ _ _ e => by cases e; rfl) (fun h W => ?_)
  refine am_retv dX2_init_33 rfl ?_
  exact ⟨rfl, W⟩
theorem t1_init {ρ h : am_H} {L K : List (Int × Int × Int)} (W : wd ρ h 38 L K) : am_CT mX1_init 0 0 [am_R 37] ρ h (fun r ρ' h' => r = none ∧ wd ρ' h' 38 L ((37, 2, 0) :: (37, 1, 0) :: (37, 0, -9) :: K)) := by
  refine am_ct (ls := [some (am_R 37)]) ok_X1_init rfl (fun _ => Nat.le_of_ble_eq_true rfl) (fun _ => rfl) (by intro v hv; simpa using hv) ?_
  refine am_aload_n (pc' := 1) dX1_init_0 rfl rfl rfl ?_
  refine am_obji (pc' := 4) dX1_init_1 rfl ml_X1_3 im_Object co_Object (Nat.le_of_ble_eq_true rfl) rfl ?_
  refine am_aload_n (pc' := 5) dX1_init_4 rfl rfl rfl ?_
  refine am_bipush (pc' := 7) dX1_init_5 rfl rfl (by decide) ?_
  refine wd_putI (ki := 0) (pc' := 10) (k := 0) (ci := 1) W rfl dX1_init_7 rfl fl_X1_9 ⟨by omega, by omega, by first | assumption | rfl⟩ rfl (fun _ _ _ e => by cases e; rfl) (fun h W => ?_)
  refine am_aload_n (pc' := 11) dX1_init_10 rfl rfl rfl ?_
  refine am_iconst (pc' := 12) dX1_init_11 rfl rfl ?_
  refine wd_putI (ki := 1) (pc' := 15) (k := 1) (ci := 1) W rfl dX1_init_12 rfl fl_X1_15 ⟨by omega, by omega, by first | assumption | rfl⟩ rfl (fun _ _ _ e => by cases e; rfl) (fun h W => ?_)
  refine am_aload_n (pc' := 16) dX1_init_15 rfl rfl rfl ?_
  refine am_iconst (pc' := 17) dX1_init_16 rfl rfl ?_
  refine wd_putI (ki := 2) (pc' := 20) (k := 2) (ci := 1) W rfl dX1_init_17 rfl fl_X1_18 ⟨by omega, by omega, by first | assumption | rfl⟩ rfl (fun _ _ _ e => by cases e; rfl) (fun h W => ?_)
  refine am_retv dX1_init_20 rfl ?_
  exact ⟨rfl, W⟩
theorem t0_init {ρ h : am_H} {L K : List (Int × Int × Int)} (W : wd ρ h 20 L K) : am_CT mX0_init 9 20 [am_R 19] ρ h (fun r ρ' h' => r = none ∧ wd ρ' h' 29 ((19, 5, 28) :: (28, -1, 0) :: (19, 4, 27) :: (27, -1, 0) :: (19, 3, 26) :: (26, -1, 0) :: (19, 2, 25) :: (25, -1, 0) :: (19, 1, 24) :: (24, -1, 0) :: (19, 0, 20) :: (20, 4, 23) :: (23, -1, 5) :: (20, 3, 22) :: (22, -1, 5) :: (20, 2, 21) :: (21, -1, 5) :: (20, -1, 0) :: L) ((19, 13, 0) :: (19, 12, 0) :: (19, 11, 0) :: (19, 10, 0) :: (19, 9, 0) :: (19, 8, 0) :: (19, 7, 0) :: (19, 6, 0) :: (20, 1, 0) :: (20, 0, 0) :: K)) := by
  refine am_ct (ls := [some (am_R 19)]) ok_X0_init rfl (fun _ => Nat.le_of_ble_eq_true rfl) (fun _ => rfl) (by intro v hv; simpa using hv) ?_
  refine am_aload_n (pc' := 1) dX0_init_0 rfl rfl rfl ?_
  refine am_obji (pc' := 4) dX0_init_1 rfl ml_X0_3 im_Object co_Object (Nat.le_of_ble_eq_true rfl) rfl ?_
  refine am_aload_n (pc' := 5) dX0_init_4 rfl rfl rfl ?_
  refine wd_newo (pc' := 8) (ci := 3) (N := 5) W rfl rfl dX0_init_5 rfl rfl cl_X0_9 ia_X3 in_X3 (by first | assumption | rfl) (fun ρ h W => ?_)
  first | refine am_dupR (pc' := 9) dX0_init_8 rfl ?_ | refine am_dupI (pc' := 9) dX0_init_8 rfl ?_
  refine am_callIN (pc' := 12) (mc := 3) (bc := 5) (ms := 15) (bs := 0) dX0_init_9 rfl ok_X3_init rfl ml_X0_11 im_X3_init rfl (Nat.le_of_ble_eq_true rfl) (Nat.le_of_ble_eq_true rfl) (t3_init (x := 20) (by decide) rfl rfl rfl rfl W) (fun r_9 ρ_9 h_9 q_9 g_9 e_9 => ?_)
  obtain ⟨rfl, W⟩ := q_9
  refine wd_putF (ki := 0) (pc' := 15) (k := 0) (ci := 0) W rfl dX0_init_12 rfl fl_X0_12 ⟨by omega, by omega, by first | assumption | rfl⟩ rfl (by omega) (fun _ _ _ e => by cases e; exact ⟨rfl, rfl⟩) rfl (fun ρ W => ?_)
  refine am_aload_n (pc' := 16) dX0_init_15 rfl rfl rfl ?_
  refine am_iconst (pc' := 17) dX0_init_16 rfl rfl ?_
  refine wd_newarr (pc' := 19) (len := 0) (k := 0) W rfl rfl rfl dX0_init_17 rfl ac_int (by decide) (by decide) (by first | assumption | rfl) (fun ρ h W => ?_)
  refine wd_putR (ki := 1) (pc' := 22) (k := 1) (ci := 0) W rfl dX0_init_19 rfl fl_X0_18 ⟨by omega, by omega, by first | assumption | rfl⟩ rfl (by omega) (fun _ _ _ e => by cases e; rfl) (fun ρ W => ?_)
  refine am_aload_n (pc' := 23) dX0_init_22 rfl rfl rfl ?_
  refine am_iconst (pc' := 24) dX0_init_23 rfl rfl ?_
  refine wd_newarr (pc' := 26) (len := 0) (k := 0) W rfl rfl rfl dX0_init_24 rfl ac_int (by decide) (by decide) (by first | assumption | rfl) (fun ρ h W => ?_)
  refine wd_putR (ki := 2) (pc' := 29) (k := 2) (ci := 0) W rfl dX0_init_26 rfl fl_X0_22 ⟨by omega, by omega, by first | assumption | rfl⟩ rfl (by omega) (fun _ _ _ e => by cases e; rfl) (fun ρ W => ?_)
  refine am_aload_n (pc' := 30) dX0_init_29 rfl rfl rfl ?_
  refine am_iconst (pc' := 31) dX0_init_30 rfl rfl ?_
  refine wd_newarr (pc' := 33) (len := 0) (k := 0) W rfl rfl rfl dX0_init_31 rfl ac_int (by decide) (by decide) (by first | assumption | rfl) (fun ρ h W => ?_)
  refine wd_putR (ki := 3) (pc' := 36) (k := 3) (ci := 0) W rfl dX0_init_33 rfl fl_X0_25 ⟨by omega, by omega, by first | assumption | rfl⟩ rfl (by omega) (fun _ _ _ e => by cases e; rfl) (fun ρ W => ?_)
  refine am_aload_n (pc' := 37) dX0_init_36 rfl rfl rfl ?_
  refine am_iconst (pc' := 38) dX0_init_37 rfl rfl ?_
  refine wd_newarr (pc' := 40) (len := 0) (k := 0) W rfl rfl rfl dX0_init_38 rfl ac_int (by decide) (by decide) (by first | assumption | rfl) (fun ρ h W => ?_)
  refine wd_putR (ki := 4) (pc' := 43) (k := 4) (ci := 0) W rfl dX0_init_40 rfl fl_X0_28 ⟨by omega, by omega, by first | assumption | rfl⟩ rfl (by omega) (fun _ _ _ e => by cases e; rfl) (fun ρ W => ?_)
  refine am_aload_n (pc' := 44) dX0_init_43 rfl rfl rfl ?_
  refine am_iconst (pc' := 45) dX0_init_44 rfl rfl ?_
  refine wd_newarr (pc' := 47) (len := 0) (k := 0) W rfl rfl rfl dX0_init_45 rfl ac_int (by decide) (by decide) (by first | assumption | rfl) (fun ρ h W => ?_)
  refine wd_putR (ki := 5) (pc' := 50) (k := 5) (ci := 0) W rfl dX0_init_47 rfl fl_X0_31 ⟨by omega, by omega, by first | assumption | rfl⟩ rfl (by omega) (fun _ _ _ e => by cases e; rfl) (fun ρ W => ?_)
  refine am_aload_n (pc' := 51) dX0_init_50 rfl rfl rfl ?_
  refine am_iconst (pc' := 52) dX0_init_51 rfl rfl ?_
  refine wd_putI (ki := 6) (pc' := 55) (k := 6) (ci := 0) W rfl dX0_init_52 rfl fl_X0_34 ⟨by omega, by omega, by first | assumption | rfl⟩ rfl (fun _ _ _ e => by cases e; rfl) (fun h W => ?_)
  refine am_aload_n (pc' := 56) dX0_init_55 rfl rfl rfl ?_
  refine am_iconst (pc' := 57) dX0_init_56 rfl rfl ?_
  refine wd_putI (ki := 7) (pc' := 60) (k := 7) (ci := 0) W rfl dX0_init_57 rfl fl_X0_38 ⟨by omega, by omega, by first | assumption | rfl⟩ rfl (fun _ _ _ e => by cases e; rfl) (fun h W => ?_)
  refine am_aload_n (pc' := 61) dX0_init_60 rfl rfl rfl ?_
  refine am_iconst (pc' := 62) dX0_init_61 rfl rfl ?_
  refine wd_putI (ki := 8) (pc' := 65) (k := 8) (ci := 0) W rfl dX0_init_62 rfl fl_X0_41 ⟨by omega, by omega, by first | assumption | rfl⟩ rfl (fun _ _ _ e => by cases e; rfl) (fun h W => ?_)
  refine am_aload_n (pc' := 66) dX0_init_65 rfl rfl rfl ?_
  refine am_iconst (pc' := 67) dX0_init_66 rfl rfl ?_
  refine wd_putI (ki := 9) (pc' := 70) (k := 9) (ci := 0) W rfl dX0_init_67 rfl fl_X0_44 ⟨by omega, by omega, by first | assumption | rfl⟩ rfl (fun _ _ _ e => by cases e; rfl) (fun h W => ?_)
  refine am_aload_n (pc' := 71) dX0_init_70 rfl rfl rfl ?_
  refine am_iconst (pc' := 72) dX0_init_71 rfl rfl ?_
  refine wd_putI (ki := 10) (pc' := 75) (k := 10) (ci := 0) W rfl dX0_init_72 rfl fl_X0_47 ⟨by omega, by omega, by first | assumption | rfl⟩ rfl (fun _ _ _ e => by cases e; rfl) (fun h W => ?_)
  refine am_aload_n (pc' := 76) dX0_init_75 rfl rfl rfl ?_
  refine am_iconst (pc' := 77) dX0_init_76 rfl rfl ?_
  refine wd_putI (ki := 11) (pc' := 80) (k := 11) (ci := 0) W rfl dX0_init_77 rfl fl_X0_50 ⟨by omega, by omega, by first | assumption | rfl⟩ rfl (fun _ _ _ e => by cases e; rfl) (fun h W => ?_)
  refine am_aload_n (pc' := 81) dX0_init_80 rfl rfl rfl ?_
  refine am_iconst (pc' := 82) dX0_init_81 rfl rfl ?_
  refine wd_putI (ki := 12) (pc' := 85) (k := 12) (ci := 0) W rfl dX0_init_82 rfl fl_X0_53 ⟨by omega, by omega, by first | assumption | rfl⟩ rfl (fun _ _ _ e => by cases e; rfl) (fun h W => ?_)
  refine am_aload_n (pc' := 86) dX0_init_85 rfl rfl rfl ?_
  refine am_iconst (pc' := 87) dX0_init_86 rfl rfl ?_
  refine wd_putI (ki := 13) (pc' := 90) (k := 13) (ci := 0) W rfl dX0_init_87 rfl fl_X0_56 ⟨by omega, by omega, by first | assumption | rfl⟩ rfl (fun _ _ _ e => by cases e; rfl) (fun h W => ?_)
  refine am_retv dX0_init_90 rfl ?_
  exact ⟨rfl, W⟩
