section AMR
variable {M : am_M} {bc bs pc pc' tgt : Nat} {ls ls' : List (Option am_V)} {st st' : List am_V} {ρ h : am_H} {Q : am_Q}
/-- a branch -/
theorem am_br {t : Prop} (hstep : ∀ (p : Program) (l : Launch) (e : Env) (R : Room) (s : State) (m : MethodId) (args : Array Value) (below : List Frame) (meth : Method) (c : Code) (H : Heap) (locs : List Loc) (cells slots : Nat) (Z : State → Prop) (lc : Array Slot) (ad : Int → Nat),
      p.tables.exec = Jvm.exec → c.code = M.2.1 → (∀ v ∈ st, am_okV (ρ 0 0) v) →
      (t → W p l e R s m args below meth c H locs cells slots Z (F0 m tgt lc (st'.map (am_c ad)))) → (¬ t → W p l e R s m args below meth c H locs cells slots Z (F0 m pc' lc (st'.map (am_c ad)))) → W p l e R s m args below meth c H locs cells slots Z (F0 m pc lc (st.map (am_c ad))))
    (hok : (∀ v ∈ st, am_okV (ρ 0 0) v) → ∀ v ∈ st', am_okV (ρ 0 0) v) (k1 : t → am_WP M bc bs tgt ls st' ρ h Q) (k2 : ¬ t → am_WP M bc bs pc' ls st' ρ h Q) : am_WP M bc bs pc ls st ρ h Q := by
  intro p l e R s m args below meth c Z D cI cS A n0 ad0 C ad H locs cells slots lc rl os ol hl hc hs
  exact hstep p l e R s m args below meth c H locs cells slots Z lc ad C.1.1.1 C.1.1.2.1 os (fun q => k1 q p l e R s m args below meth c Z D cI cS A n0 ad0 C ad H locs cells slots lc rl (hok os) ol hl hc hs) (fun q => k2 q p l e R s m args below meth c Z D cI cS A n0 ad0 C ad H locs cells slots lc rl (hok os) ol hl hc hs)
theorem am_eq0 {a : Int} (ha : am_okI a) : Int32.ofInt a = 0 ↔ a = 0 := by rw [← am_0, am_inj ha am_ok0]
theorem am_lt0 {a : Int} (ha : am_okI a) : Int32.ofInt a < 0 ↔ a < 0 := by rw [← am_0, am_lt ha am_ok0]
theorem am_gt0 {a : Int} (ha : am_okI a) : 0 < Int32.ofInt a ↔ 0 < a := by rw [← am_0, am_lt am_ok0 ha]
theorem am_le0 {a : Int} (ha : am_okI a) : Int32.ofInt a ≤ 0 ↔ a ≤ 0 := by rw [← am_0, am_le ha am_ok0]
theorem am_ge0 {a : Int} (ha : am_okI a) : 0 ≤ Int32.ofInt a ↔ 0 ≤ a := by rw [← am_0, am_le am_ok0 ha]
theorem am_if_eq {a off : Int} (hd : decode M.2.1 pc = .ok (.ifCond .eq off, 3)) (ht : (pc : Int) + off = (tgt : Int)) (hp : pc + 3 = pc') (k1 : a = 0 → am_WP M bc bs tgt ls st ρ h Q) (k2 : ¬ a = 0 → am_WP M bc bs pc' ls st ρ h Q) : am_WP M bc bs pc ls (am_I a :: st) ρ h Q := by
  subst hp
  exact am_br (fun p l e R s m args below meth c H locs cells slots Z lc ad hx hb os kt kf => lv_if_eq hx hb hd ht (fun q => kt ((am_eq0 (am_okh os)).mp q)) (fun q => kf (fun z => q ((am_eq0 (am_okh os)).mpr z)))) am_okt k1 k2
theorem am_if_lt {a off : Int} (hd : decode M.2.1 pc = .ok (.ifCond .lt off, 3)) (ht : (pc : Int) + off = (tgt : Int)) (hp : pc + 3 = pc') (k1 : a < 0 → am_WP M bc bs tgt ls st ρ h Q) (k2 : ¬ a < 0 → am_WP M bc bs pc' ls st ρ h Q) : am_WP M bc bs pc ls (am_I a :: st) ρ h Q := by
  subst hp
  exact am_br (fun p l e R s m args below meth c H locs cells slots Z lc ad hx hb os kt kf => lv_if_lt hx hb hd ht (fun q => kt ((am_lt0 (am_okh os)).mp q)) (fun q => kf (fun z => q ((am_lt0 (am_okh os)).mpr z)))) am_okt k1 k2
theorem am_if_ge {a off : Int} (hd : decode M.2.1 pc = .ok (.ifCond .ge off, 3)) (ht : (pc : Int) + off = (tgt : Int)) (hp : pc + 3 = pc') (k1 : 0 ≤ a → am_WP M bc bs tgt ls st ρ h Q) (k2 : ¬ 0 ≤ a → am_WP M bc bs pc' ls st ρ h Q) : am_WP M bc bs pc ls (am_I a :: st) ρ h Q := by
  subst hp
  exact am_br (fun p l e R s m args below meth c H locs cells slots Z lc ad hx hb os kt kf => lv_if_ge hx hb hd ht (fun q => kt ((am_ge0 (am_okh os)).mp q)) (fun q => kf (fun z => q ((am_ge0 (am_okh os)).mpr z)))) am_okt k1 k2
theorem am_if_gt {a off : Int} (hd : decode M.2.1 pc = .ok (.ifCond .gt off, 3)) (ht : (pc : Int) + off = (tgt : Int)) (hp : pc + 3 = pc') (k1 : 0 < a → am_WP M bc bs tgt ls st ρ h Q) (k2 : ¬ 0 < a → am_WP M bc bs pc' ls st ρ h Q) : am_WP M bc bs pc ls (am_I a :: st) ρ h Q := by
  subst hp
  exact am_br (fun p l e R s m args below meth c H locs cells slots Z lc ad hx hb os kt kf => lv_if_gt hx hb hd ht (fun q => kt ((am_gt0 (am_okh os)).mp q)) (fun q => kf (fun z => q ((am_gt0 (am_okh os)).mpr z)))) am_okt k1 k2
theorem am_if_le {a off : Int} (hd : decode M.2.1 pc = .ok (.ifCond .le off, 3)) (ht : (pc : Int) + off = (tgt : Int)) (hp : pc + 3 = pc') (k1 : a ≤ 0 → am_WP M bc bs tgt ls st ρ h Q) (k2 : ¬ a ≤ 0 → am_WP M bc bs pc' ls st ρ h Q) : am_WP M bc bs pc ls (am_I a :: st) ρ h Q := by
  subst hp
  exact am_br (fun p l e R s m args below meth c H locs cells slots Z lc ad hx hb os kt kf => lv_if_le hx hb hd ht (fun q => kt ((am_le0 (am_okh os)).mp q)) (fun q => kf (fun z => q ((am_le0 (am_okh os)).mpr z)))) am_okt k1 k2
theorem am_if_ne {a off : Int} (hd : decode M.2.1 pc = .ok (.ifCond .ne off, 3)) (ht : (pc : Int) + off = (tgt : Int)) (hp : pc + 3 = pc') (k1 : a ≠ 0 → am_WP M bc bs tgt ls st ρ h Q) (k2 : a = 0 → am_WP M bc bs pc' ls st ρ h Q) : am_WP M bc bs pc ls (am_I a :: st) ρ h Q := by
  subst hp
  exact am_br (t := a ≠ 0) (fun p l e R s m args below meth c H locs cells slots Z lc ad hx hb os kt kf => lv_if_ne hx hb hd ht (fun q => kt (fun z => q ((am_eq0 (am_okh os)).mpr z))) (fun q => kf (fun z => z ((am_eq0 (am_okh os)).mp q)))) am_okt k1 (fun q => k2 (Decidable.not_not.mp q))
theorem am_icmp_eq {a b off : Int} (hd : decode M.2.1 pc = .ok (.if_icmp .eq off, 3)) (ht : (pc : Int) + off = (tgt : Int)) (hp : pc + 3 = pc') (k1 : a = b → am_WP M bc bs tgt ls st ρ h Q) (k2 : ¬ a = b → am_WP M bc bs pc' ls st ρ h Q) : am_WP M bc bs pc ls (am_I b :: am_I a :: st) ρ h Q := by
  subst hp
  exact am_br (fun p l e R s m args below meth c H locs cells slots Z lc ad hx hb os kt kf => lv_icmp_eq hx hb hd ht (fun q => kt ((am_inj (am_okh (am_okt os)) (am_okh os)).mp q)) (fun q => kf (fun z => q ((am_inj (am_okh (am_okt os)) (am_okh os)).mpr z)))) (fun os => am_okt (am_okt os)) k1 k2
theorem am_icmp_lt {a b off : Int} (hd : decode M.2.1 pc = .ok (.if_icmp .lt off, 3)) (ht : (pc : Int) + off = (tgt : Int)) (hp : pc + 3 = pc') (k1 : a < b → am_WP M bc bs tgt ls st ρ h Q) (k2 : ¬ a < b → am_WP M bc bs pc' ls st ρ h Q) : am_WP M bc bs pc ls (am_I b :: am_I a :: st) ρ h Q := by
  subst hp
  exact am_br (fun p l e R s m args below meth c H locs cells slots Z lc ad hx hb os kt kf => lv_icmp_lt hx hb hd ht (fun q => kt ((am_lt (am_okh (am_okt os)) (am_okh os)).mp q)) (fun q => kf (fun z => q ((am_lt (am_okh (am_okt os)) (am_okh os)).mpr z)))) (fun os => am_okt (am_okt os)) k1 k2
theorem am_icmp_ge {a b off : Int} (hd : decode M.2.1 pc = .ok (.if_icmp .ge off, 3)) (ht : (pc : Int) + off = (tgt : Int)) (hp : pc + 3 = pc') (k1 : b ≤ a → am_WP M bc bs tgt ls st ρ h Q) (k2 : ¬ b ≤ a → am_WP M bc bs pc' ls st ρ h Q) : am_WP M bc bs pc ls (am_I b :: am_I a :: st) ρ h Q := by
  subst hp
  exact am_br (fun p l e R s m args below meth c H locs cells slots Z lc ad hx hb os kt kf => lv_icmp_ge hx hb hd ht (fun q => kt ((am_le (am_okh os) (am_okh (am_okt os))).mp q)) (fun q => kf (fun z => q ((am_le (am_okh os) (am_okh (am_okt os))).mpr z)))) (fun os => am_okt (am_okt os)) k1 k2
theorem am_icmp_gt {a b off : Int} (hd : decode M.2.1 pc = .ok (.if_icmp .gt off, 3)) (ht : (pc : Int) + off = (tgt : Int)) (hp : pc + 3 = pc') (k1 : b < a → am_WP M bc bs tgt ls st ρ h Q) (k2 : ¬ b < a → am_WP M bc bs pc' ls st ρ h Q) : am_WP M bc bs pc ls (am_I b :: am_I a :: st) ρ h Q := by
  subst hp
  exact am_br (fun p l e R s m args below meth c H locs cells slots Z lc ad hx hb os kt kf => lv_icmp_gt hx hb hd ht (fun q => kt ((am_lt (am_okh os) (am_okh (am_okt os))).mp q)) (fun q => kf (fun z => q ((am_lt (am_okh os) (am_okh (am_okt os))).mpr z)))) (fun os => am_okt (am_okt os)) k1 k2
theorem am_icmp_le {a b off : Int} (hd : decode M.2.1 pc = .ok (.if_icmp .le off, 3)) (ht : (pc : Int) + off = (tgt : Int)) (hp : pc + 3 = pc') (k1 : a ≤ b → am_WP M bc bs tgt ls st ρ h Q) (k2 : ¬ a ≤ b → am_WP M bc bs pc' ls st ρ h Q) : am_WP M bc bs pc ls (am_I b :: am_I a :: st) ρ h Q := by
  subst hp
  exact am_br (fun p l e R s m args below meth c H locs cells slots Z lc ad hx hb os kt kf => lv_icmp_le hx hb hd ht (fun q => kt ((am_le (am_okh (am_okt os)) (am_okh os)).mp q)) (fun q => kf (fun z => q ((am_le (am_okh (am_okt os)) (am_okh os)).mpr z)))) (fun os => am_okt (am_okt os)) k1 k2
theorem am_icmp_ne {a b off : Int} (hd : decode M.2.1 pc = .ok (.if_icmp .ne off, 3)) (ht : (pc : Int) + off = (tgt : Int)) (hp : pc + 3 = pc') (k1 : a ≠ b → am_WP M bc bs tgt ls st ρ h Q) (k2 : a = b → am_WP M bc bs pc' ls st ρ h Q) : am_WP M bc bs pc ls (am_I b :: am_I a :: st) ρ h Q := by
  subst hp
  exact am_br (t := a ≠ b) (fun p l e R s m args below meth c H locs cells slots Z lc ad hx hb os kt kf => lv_icmp_ne hx hb hd ht (fun q => kt (fun z => q ((am_inj (am_okh (am_okt os)) (am_okh os)).mpr z))) (fun q => kf (fun z => z ((am_inj (am_okh (am_okt os)) (am_okh os)).mp q)))) (fun os => am_okt (am_okt os)) k1 (fun q => k2 (Decidable.not_not.mp q))
theorem am_leJ {x y : Int} (hx : am_okJ x) (hy : am_okJ y) : Int64.ofInt x ≤ Int64.ofInt y ↔ x ≤ y := by
  rw [Int64.le_iff_toInt_le, am_toIntJ hx, am_toIntJ hy]
theorem am_lcmp_eq {a b off : Int} {pc1 : Nat} (hd0 : decode M.2.1 pc = .ok (.lcmp, 1)) (hp1 : pc + 1 = pc1) (hd : decode M.2.1 pc1 = .ok (.ifCond .eq off, 3)) (ht : (pc1 : Int) + off = (tgt : Int)) (hp : pc1 + 3 = pc') (k1 : a = b → am_WP M bc bs tgt ls st ρ h Q) (k2 : ¬ a = b → am_WP M bc bs pc' ls st ρ h Q) : am_WP M bc bs pc ls (am_L b :: am_L a :: st) ρ h Q := by
  subst hp
  subst hp1
  exact am_br (fun p l e R s m args below meth c H locs cells slots Z lc ad hx hb os kt kf => W.lcmp hx hb hd0 (lv_if_eq hx hb hd ht (fun q => kt ((am_injJ (am_okh (am_okt os)) (am_okh os)).mp ((lg_cmp_eq _ _).mp q))) (fun q => kf (fun z => q ((lg_cmp_eq _ _).mpr ((am_injJ (am_okh (am_okt os)) (am_okh os)).mpr z)))))) (fun os => am_okt (am_okt os)) k1 k2
theorem am_lcmp_lt {a b off : Int} {pc1 : Nat} (hd0 : decode M.2.1 pc = .ok (.lcmp, 1)) (hp1 : pc + 1 = pc1) (hd : decode M.2.1 pc1 = .ok (.ifCond .lt off, 3)) (ht : (pc1 : Int) + off = (tgt : Int)) (hp : pc1 + 3 = pc') (k1 : a < b → am_WP M bc bs tgt ls st ρ h Q) (k2 : ¬ a < b → am_WP M bc bs pc' ls st ρ h Q) : am_WP M bc bs pc ls (am_L b :: am_L a :: st) ρ h Q := by
  subst hp
  subst hp1
  exact am_br (fun p l e R s m args below meth c H locs cells slots Z lc ad hx hb os kt kf => W.lcmp hx hb hd0 (lv_if_lt hx hb hd ht (fun q => kt ((am_ltJ (am_okh (am_okt os)) (am_okh os)).mp ((lg_cmp_lt _ _).mp q))) (fun q => kf (fun z => q ((lg_cmp_lt _ _).mpr ((am_ltJ (am_okh (am_okt os)) (am_okh os)).mpr z)))))) (fun os => am_okt (am_okt os)) k1 k2
theorem am_lcmp_ge {a b off : Int} {pc1 : Nat} (hd0 : decode M.2.1 pc = .ok (.lcmp, 1)) (hp1 : pc + 1 = pc1) (hd : decode M.2.1 pc1 = .ok (.ifCond .ge off, 3)) (ht : (pc1 : Int) + off = (tgt : Int)) (hp : pc1 + 3 = pc') (k1 : b ≤ a → am_WP M bc bs tgt ls st ρ h Q) (k2 : ¬ b ≤ a → am_WP M bc bs pc' ls st ρ h Q) : am_WP M bc bs pc ls (am_L b :: am_L a :: st) ρ h Q := by
  subst hp
  subst hp1
  exact am_br (fun p l e R s m args below meth c H locs cells slots Z lc ad hx hb os kt kf => W.lcmp hx hb hd0 (lv_if_ge hx hb hd ht (fun q => kt ((am_leJ (am_okh os) (am_okh (am_okt os))).mp ((lg_cmp_ge _ _).mp q))) (fun q => kf (fun z => q ((lg_cmp_ge _ _).mpr ((am_leJ (am_okh os) (am_okh (am_okt os))).mpr z)))))) (fun os => am_okt (am_okt os)) k1 k2
theorem am_lcmp_gt {a b off : Int} {pc1 : Nat} (hd0 : decode M.2.1 pc = .ok (.lcmp, 1)) (hp1 : pc + 1 = pc1) (hd : decode M.2.1 pc1 = .ok (.ifCond .gt off, 3)) (ht : (pc1 : Int) + off = (tgt : Int)) (hp : pc1 + 3 = pc') (k1 : b < a → am_WP M bc bs tgt ls st ρ h Q) (k2 : ¬ b < a → am_WP M bc bs pc' ls st ρ h Q) : am_WP M bc bs pc ls (am_L b :: am_L a :: st) ρ h Q := by
  subst hp
  subst hp1
  exact am_br (fun p l e R s m args below meth c H locs cells slots Z lc ad hx hb os kt kf => W.lcmp hx hb hd0 (lv_if_gt hx hb hd ht (fun q => kt ((am_ltJ (am_okh os) (am_okh (am_okt os))).mp ((lg_cmp_gt _ _).mp q))) (fun q => kf (fun z => q ((lg_cmp_gt _ _).mpr ((am_ltJ (am_okh os) (am_okh (am_okt os))).mpr z)))))) (fun os => am_okt (am_okt os)) k1 k2
theorem am_lcmp_le {a b off : Int} {pc1 : Nat} (hd0 : decode M.2.1 pc = .ok (.lcmp, 1)) (hp1 : pc + 1 = pc1) (hd : decode M.2.1 pc1 = .ok (.ifCond .le off, 3)) (ht : (pc1 : Int) + off = (tgt : Int)) (hp : pc1 + 3 = pc') (k1 : a ≤ b → am_WP M bc bs tgt ls st ρ h Q) (k2 : ¬ a ≤ b → am_WP M bc bs pc' ls st ρ h Q) : am_WP M bc bs pc ls (am_L b :: am_L a :: st) ρ h Q := by
  subst hp
  subst hp1
  exact am_br (fun p l e R s m args below meth c H locs cells slots Z lc ad hx hb os kt kf => W.lcmp hx hb hd0 (lv_if_le hx hb hd ht (fun q => kt ((am_leJ (am_okh (am_okt os)) (am_okh os)).mp ((lg_cmp_le _ _).mp q))) (fun q => kf (fun z => q ((lg_cmp_le _ _).mpr ((am_leJ (am_okh (am_okt os)) (am_okh os)).mpr z)))))) (fun os => am_okt (am_okt os)) k1 k2
theorem am_lcmp_ne {a b off : Int} {pc1 : Nat} (hd0 : decode M.2.1 pc = .ok (.lcmp, 1)) (hp1 : pc + 1 = pc1) (hd : decode M.2.1 pc1 = .ok (.ifCond .ne off, 3)) (ht : (pc1 : Int) + off = (tgt : Int)) (hp : pc1 + 3 = pc') (k1 : a ≠ b → am_WP M bc bs tgt ls st ρ h Q) (k2 : a = b → am_WP M bc bs pc' ls st ρ h Q) : am_WP M bc bs pc ls (am_L b :: am_L a :: st) ρ h Q := by
  subst hp
  subst hp1
  exact am_br (t := a ≠ b) (fun p l e R s m args below meth c H locs cells slots Z lc ad hx hb os kt kf => W.lcmp hx hb hd0 (lv_if_ne hx hb hd ht (fun q => kt (fun z => q ((lg_cmp_eq _ _).mpr ((am_injJ (am_okh (am_okt os)) (am_okh os)).mpr z)))) (fun q => kf (fun z => z ((am_injJ (am_okh (am_okt os)) (am_okh os)).mp ((lg_cmp_eq _ _).mp q)))))) (fun os => am_okt (am_okt os)) k1 (fun q => k2 (Decidable.not_not.mp q))
theorem am_tabOut {a dflt lo hi : Int} {offs : Array Int} {len : Nat} (hd : decode M.2.1 pc = .ok (.tableswitch dflt lo hi offs, len)) (ht : (pc : Int) + dflt = (pc' : Int)) (hx : a < lo ∨ hi < a) (k : am_WP M bc bs pc' ls st ρ h Q) : am_WP M bc bs pc ls (am_I a :: st) ρ h Q :=
  am_stk (fun p l e R s m args below meth c H locs cells slots Z lc ad hx9 hb _ _ os ol hl k => lv_tableOut hx9 hb hd (by rw [am_toInt (am_okh os)]; exact hx) ht k) (fun os _ => am_okt os) k
theorem am_tabIn {a dflt lo hi off : Int} {offs : Array Int} {len : Nat} (hd : decode M.2.1 pc = .ok (.tableswitch dflt lo hi offs, len)) (h1 : ¬ a < lo) (h2 : ¬ hi < a) (ho : offs[(a - lo).toNat]? = some off) (ht : (pc : Int) + off = (pc' : Int)) (k : am_WP M bc bs pc' ls st ρ h Q) : am_WP M bc bs pc ls (am_I a :: st) ρ h Q :=
  am_stk (fun p l e R s m args below meth c H locs cells slots Z lc ad hx9 hb _ _ os ol hl k => lv_tableIn hx9 hb hd (by rw [am_toInt (am_okh os)]; exact h1) (by rw [am_toInt (am_okh os)]; exact h2) (by rw [am_toInt (am_okh os)]; exact ho) ht k) (fun os _ => am_okt os) k
theorem am_look {a dflt off : Int} {ps : Array (Int × Int)} {len : Nat} (hd : decode M.2.1 pc = .ok (.lookupswitch dflt ps, len)) (hq : (ps.toList.zip (ps.toList.drop 1)).all (fun (a, next) => a.1 < next.1) = true) (ho : Op.lookupswitch.offset ps.toList dflt a = off) (ht : (pc : Int) + off = (pc' : Int)) (k : am_WP M bc bs pc' ls st ρ h Q) : am_WP M bc bs pc ls (am_I a :: st) ρ h Q :=
  am_stk (fun p l e R s m args below meth c H locs cells slots Z lc ad hx9 hb _ _ os ol hl k => lv_lookup hx9 hb hd hq (by rw [am_toInt (am_okh os)]; exact ho) ht k) (fun os _ => am_okt os) k
theorem am_olset {n : Int} {i : Nat} {v : am_V} (hv : am_okV n v) (ol : ∀ v, some v ∈ ls → am_okV n v) : ∀ w, some w ∈ ls.set i (some v) → am_okV n w := fun w hw => by
  rcases List.mem_or_eq_of_mem_set hw with h | h
  · exact ol w h
  · cases h; exact hv
theorem am_olset2 {n : Int} {i : Nat} {v : am_V} (hv : am_okV n v) (ol : ∀ v, some v ∈ ls → am_okV n v) : ∀ w, some w ∈ (ls.set i (some v)).set (i + 1) none → am_okV n w := fun w hw => by
  rcases List.mem_or_eq_of_mem_set hw with h | h
  · exact am_olset hv ol w h
  · cases h
theorem am_istore_n {q : Fin 4} {i : Nat} {x : Int} (hd : decode M.2.1 pc = .ok (.istore_n q, 1)) (hp : pc + 1 = pc') (hi : (q : Nat) = i) (hn : i < M.2.2.1) (hnl : am_nl ls i = true) (hls : ls.set i (some (am_I x)) = ls') (k : am_WP M bc bs pc' ls' st ρ h Q) : am_WP M bc bs pc ls (am_I x :: st) ρ h Q := by
  subst hp
  subst hls
  intro p l e R s m args below meth c Z D cI cS A n0 ad0 C ad H locs cells slots lc rl os ol hl hc hs
  exact lv_istore_n C.1.1.1 C.1.1.2.1 hd hi hl hn rfl (fun lc' hl' => k p l e R s m args below meth c Z D cI cS A n0 ad0 C ad H locs cells slots lc' rl (am_okt os) (am_olset (am_okh os) ol) (am_lv_store1 (v := am_I x) hl' hnl) hc hs)
theorem am_istore {i : Nat} {x : Int} (hd : decode M.2.1 pc = .ok (.istore i, 2)) (hp : pc + 2 = pc') (hn : i < M.2.2.1) (hnl : am_nl ls i = true) (hls : ls.set i (some (am_I x)) = ls') (k : am_WP M bc bs pc' ls' st ρ h Q) : am_WP M bc bs pc ls (am_I x :: st) ρ h Q := by
  subst hp
  subst hls
  intro p l e R s m args below meth c Z D cI cS A n0 ad0 C ad H locs cells slots lc rl os ol hl hc hs
  exact lv_istore C.1.1.1 C.1.1.2.1 hd hl hn rfl (fun lc' hl' => k p l e R s m args below meth c Z D cI cS A n0 ad0 C ad H locs cells slots lc' rl (am_okt os) (am_olset (am_okh os) ol) (am_lv_store1 (v := am_I x) hl' hnl) hc hs)
theorem am_lstore_n {q : Fin 4} {i : Nat} {x : Int} (hd : decode M.2.1 pc = .ok (.lstore_n q, 1)) (hp : pc + 1 = pc') (hi : (q : Nat) = i) (hn : i + 1 < M.2.2.1) (hnl : am_nl ls i = true) (hls : (ls.set i (some (am_L x))).set (i + 1) none = ls') (k : am_WP M bc bs pc' ls' st ρ h Q) : am_WP M bc bs pc ls (am_L x :: st) ρ h Q := by
  subst hp
  subst hls
  intro p l e R s m args below meth c Z D cI cS A n0 ad0 C ad H locs cells slots lc rl os ol hl hc hs
  exact lv_lstore_n C.1.1.1 C.1.1.2.1 hd hi hl hn rfl (fun lc' hl' => k p l e R s m args below meth c Z D cI cS A n0 ad0 C ad H locs cells slots lc' rl (am_okt os) (am_olset2 (am_okh os) ol) (am_lv_store2 (v := am_L x) hl' hnl) hc hs)
theorem am_lstore {i : Nat} {x : Int} (hd : decode M.2.1 pc = .ok (.lstore i, 2)) (hp : pc + 2 = pc') (hn : i + 1 < M.2.2.1) (hnl : am_nl ls i = true) (hls : (ls.set i (some (am_L x))).set (i + 1) none = ls') (k : am_WP M bc bs pc' ls' st ρ h Q) : am_WP M bc bs pc ls (am_L x :: st) ρ h Q := by
  subst hp
  subst hls
  intro p l e R s m args below meth c Z D cI cS A n0 ad0 C ad H locs cells slots lc rl os ol hl hc hs
  exact lv_lstore C.1.1.1 C.1.1.2.1 hd hl hn rfl (fun lc' hl' => k p l e R s m args below meth c Z D cI cS A n0 ad0 C ad H locs cells slots lc' rl (am_okt os) (am_olset2 (am_okh os) ol) (am_lv_store2 (v := am_L x) hl' hnl) hc hs)
theorem am_astore_n {q : Fin 4} {i : Nat} {x : Int} (hd : decode M.2.1 pc = .ok (.astore_n q, 1)) (hp : pc + 1 = pc') (hi : (q : Nat) = i) (hn : i < M.2.2.1) (hnl : am_nl ls i = true) (hls : ls.set i (some (am_R x)) = ls') (k : am_WP M bc bs pc' ls' st ρ h Q) : am_WP M bc bs pc ls (am_R x :: st) ρ h Q := by
  subst hp
  subst hls
  intro p l e R s m args below meth c Z D cI cS A n0 ad0 C ad H locs cells slots lc rl os ol hl hc hs
  exact lv_astore_n C.1.1.1 C.1.1.2.1 hd hi hl hn rfl (fun lc' hl' => k p l e R s m args below meth c Z D cI cS A n0 ad0 C ad H locs cells slots lc' rl (am_okt os) (am_olset (am_okh os) ol) (am_lv_store1 (v := am_R x) hl' hnl) hc hs)
theorem am_astore {i : Nat} {x : Int} (hd : decode M.2.1 pc = .ok (.astore i, 2)) (hp : pc + 2 = pc') (hn : i < M.2.2.1) (hnl : am_nl ls i = true) (hls : ls.set i (some (am_R x)) = ls') (k : am_WP M bc bs pc' ls' st ρ h Q) : am_WP M bc bs pc ls (am_R x :: st) ρ h Q := by
  subst hp
  subst hls
  intro p l e R s m args below meth c Z D cI cS A n0 ad0 C ad H locs cells slots lc rl os ol hl hc hs
  exact lv_astore C.1.1.1 C.1.1.2.1 hd hl hn rfl (fun lc' hl' => k p l e R s m args below meth c Z D cI cS A n0 ad0 C ad H locs cells slots lc' rl (am_okt os) (am_olset (am_okh os) ol) (am_lv_store1 (v := am_R x) hl' hnl) hc hs)
theorem am_iinc {i : Nat} {x n : Int} (hd : decode M.2.1 pc = .ok (.iinc i n, 3)) (hp : pc + 3 = pc') (hx : ls[i]? = some (some (am_I x))) (hr : am_okI (x + n)) (hn : i < M.2.2.1) (hnl : am_nl ls i = true) (hls : ls.set i (some (am_I (x + n))) = ls') (k : am_WP M bc bs pc' ls' st ρ h Q) : am_WP M bc bs pc ls st ρ h Q := by
  subst hp
  subst hls
  intro p l e R s m args below meth c Z D cI cS A n0 ad0 C ad H locs cells slots lc rl os ol hl hc hs
  obtain ⟨kk, hkk⟩ := List.getElem?_of_mem ((am_lv_mem ad ls 0 (i, am_c ad (am_I x))).mpr ⟨i, am_I x, hx, by simp⟩)
  exact lv_iinc (v := Int32.ofInt (x + n)) C.1.1.1 C.1.1.2.1 hd hl hkk (Int32.ofInt_add x n).symm hn rfl (fun lc' hl' => k p l e R s m args below meth c Z D cI cS A n0 ad0 C ad H locs cells slots lc' rl os (am_olset (v := am_I (x + n)) hr ol) (am_lv_store1 (v := am_I (x + n)) hl' hnl) hc hs)
end AMR
