/-! THE JUDGEMENT: from a place in a method, with these locals, this stack, this world, the method comes to its end with Q -/
/-- the words of nest mates, and the class of rows of sheets -/
def am_X (U : State) : Prop := (∀ w ∈ am_nest, va_Nw w U) ∧ va_AO RX4 U
theorem am_nestw : ∀ w ∈ am_nest, ∃ (a : String) (i : Nat) (x : MethodName) (h : String), w = .methodLinkNest a i x h := by
  intro w hw
  simp only [am_nest, List.mem_cons, List.not_mem_nil, or_false] at hw
  rcases hw with rfl | rfl | rfl | rfl | rfl | rfl | rfl <;> exact ⟨_, _, _, _, rfl⟩
theorem am_X.warm {s U : State} (hW : s.WarmedH U.vm) (h : am_X s) : am_X U := by
  refine ⟨fun w hw => ?_, va_AO.moved hW.alike h.2⟩
  have h1 := h.1 w hw
  obtain ⟨a, i, x, hh, rfl⟩ := am_nestw w hw
  exact va_Nw.warmM hW h1
theorem am_X.same {u U : State} (e : u.vm = U.vm) (h : am_X u) : am_X U := by
  refine ⟨fun w hw => ?_, va_AO.moved (by rw [e]; exact Vm.Alike.refl _) h.2⟩
  have h1 := h.1 w hw
  obtain ⟨a, i, x, hh, rfl⟩ := am_nestw w hw
  exact va_Nw.same rfl e h1
def am_Sc (S : Option (Nat × (Int → Int))) (A : Nat → Prop) (s : State) (b : Nat) : Prop := match S with
  | none => True
  | some (L, xs) => va_X b L (fun j => Int32.ofInt (xs j)) s s.heap ∧ b < s.heap.size ∧ ¬ A b ∧ L < 2147483648 ∧ ∀ j, am_okI (xs j)
def am_Rl (D : va_G) (cI cS : ClassId) (A : Nat → Prop) (s : State) (n0 : Int) (ad0 ad : Int → Nat) (ρ h : am_H) (H : Heap) (locs : List Loc) : Prop :=
  am_rng ρ h ∧ n0 ≤ ρ 0 0 ∧ (∀ x, x < n0 → ad x = ad0 x) ∧ va_P D vwCl (am_ws cI cS ad ρ h) H ∧ va_D A (am_ws cI cS ad ρ h) ∧ va_S A s.heap H locs
def am_rt (M : am_M) (pc : Nat) (r : Option am_V) : Prop :=
  (r = none ∧ M.2.2.2.1 = none ∧ decode M.2.1 pc = .ok (.return_, 1)) ∨ (∃ v, r = some (am_I v) ∧ M.2.2.2.1 = some .int ∧ decode M.2.1 pc = .ok (.ireturn, 1)) ∨
  (∃ v, r = some (am_I v) ∧ (v = 0 ∨ v = 1) ∧ M.2.2.2.1 = some .boolean ∧ decode M.2.1 pc = .ok (.ireturn, 1)) ∨ (∃ v, r = some (am_L v) ∧ M.2.2.2.1 = some .long ∧ decode M.2.1 pc = .ok (.lreturn, 1))
def am_Fx (M : am_M) (p : Program) (R : Room) (s : State) (m : MethodId) (args : Array Value) (meth : Method) (c : Code) (D : va_G) (cI cS : ClassId) (A : Nat → Prop) (n0 : Int) (ad0 : Int → Nat) : Prop :=
  (p.tables.exec = Jvm.exec ∧ c.code = M.2.1 ∧ c.maxLocals = M.2.2.1 ∧ s.vm.findClass M.1.cls = some m.cls) ∧ (∀ w, am_T w → w.before args s = true) ∧ (M.1.name = "<init>" → meth.name = "<init>") ∧
  va_K D vwCl [(cI, .int), (cS, .object RX4)] s ∧ (∀ q, s.heap.size ≤ q → A q) ∧ R.frames = M.2.2.2.2.1 ∧ R.locals = 36 * M.2.2.2.2.1 ∧ 0 < n0 ∧ am_Sc M.2.2.2.2.2 A s (ad0 (-1)) ∧ am_X s
def am_Cx (M : am_M) (Q : am_Q) (p : Program) (l : Launch) (e : Env) (R : Room) (s : State) (m : MethodId) (args : Array Value) (below : List Frame) (meth : Method) (c : Code) (Z : State → Prop) (D : va_G) (cI cS : ClassId) (A : Nat → Prop) (n0 : Int) (ad0 : Int → Nat) : Prop :=
  am_Fx M p R s m args meth c D cI cS A n0 ad0 ∧
  ∀ (r : Option am_V) (ρ h : am_H) (ad : Int → Nat) (H : Heap) (locs : List Loc) (cells slots : Nat) (lc : Array Slot) (pc : Nat), Q r ρ h → am_rt M pc r → am_Rl D cI cS A s n0 ad0 ad ρ h H locs → (∀ v, r = some v → am_okV (ρ 0 0) v) → cells ≤ R.cells → slots ≤ R.slots →
    W p l e R s m args below meth c H locs cells slots Z (F0 m pc lc (r.toList.map (am_c ad)))
def am_WP (M : am_M) (bc bs pc : Nat) (ls : List (Option am_V)) (st : List am_V) (ρ h : am_H) (Q : am_Q) : Prop :=
  ∀ (p : Program) (l : Launch) (e : Env) (R : Room) (s : State) (m : MethodId) (args : Array Value) (below : List Frame) (meth : Method) (c : Code) (Z : State → Prop) (D : va_G) (cI cS : ClassId) (A : Nat → Prop) (n0 : Int) (ad0 : Int → Nat),
    am_Cx M Q p l e R s m args below meth c Z D cI cS A n0 ad0 →
  ∀ (ad : Int → Nat) (H : Heap) (locs : List Loc) (cells slots : Nat) (lc : Array Slot), am_Rl D cI cS A s n0 ad0 ad ρ h H locs → (∀ v ∈ st, am_okV (ρ 0 0) v) → (∀ v, some v ∈ ls → am_okV (ρ 0 0) v) →
    lv_has lc M.2.2.1 (am_lv ad 0 ls) → cells + bc ≤ R.cells → slots + bs ≤ R.slots → W p l e R s m args below meth c H locs cells slots Z (F0 m pc lc (st.map (am_c ad)))
section AMR
variable {M : am_M} {bc bs pc pc' : Nat} {ls ls' : List (Option am_V)} {st st' : List am_V} {ρ h : am_H} {Q : am_Q}
/-- a step that moves the stack alone -/
theorem am_stk (hstep : ∀ (p : Program) (l : Launch) (e : Env) (R : Room) (s : State) (m : MethodId) (args : Array Value) (below : List Frame) (meth : Method) (c : Code) (H : Heap) (locs : List Loc) (cells slots : Nat) (Z : State → Prop) (lc : Array Slot) (ad : Int → Nat),
      p.tables.exec = Jvm.exec → c.code = M.2.1 → s.vm.findClass M.1.cls = some m.cls → (∀ w, am_T w → w.before args s = true) → (∀ v ∈ st, am_okV (ρ 0 0) v) → (∀ v, some v ∈ ls → am_okV (ρ 0 0) v) → lv_has lc M.2.2.1 (am_lv ad 0 ls) →
      W p l e R s m args below meth c H locs cells slots Z (F0 m pc' lc (st'.map (am_c ad))) → W p l e R s m args below meth c H locs cells slots Z (F0 m pc lc (st.map (am_c ad))))
    (hok : (∀ v ∈ st, am_okV (ρ 0 0) v) → (∀ v, some v ∈ ls → am_okV (ρ 0 0) v) → ∀ v ∈ st', am_okV (ρ 0 0) v) (k : am_WP M bc bs pc' ls st' ρ h Q) : am_WP M bc bs pc ls st ρ h Q := by
  intro p l e R s m args below meth c Z D cI cS A n0 ad0 C ad H locs cells slots lc rl os ol hl hc hs
  exact hstep p l e R s m args below meth c H locs cells slots Z lc ad C.1.1.1 C.1.1.2.1 C.1.1.2.2.2 C.1.2.1 os ol hl (k p l e R s m args below meth c Z D cI cS A n0 ad0 C ad H locs cells slots lc rl (hok os ol) ol hl hc hs)
theorem am_ok1 {n : Int} {a : am_V} {t : List am_V} (ha : am_okV n a) (h : ∀ v ∈ t, am_okV n v) : ∀ v ∈ a :: t, am_okV n v := fun v hv => by
  rcases List.mem_cons.mp hv with rfl | hv
  · exact ha
  · exact h v hv
theorem am_okI1 {n x : Int} {t : List am_V} (hx : am_okI x) (h : ∀ v ∈ t, am_okV n v) : ∀ v ∈ am_I x :: t, am_okV n v := am_ok1 (a := am_I x) hx h
theorem am_okL1 {n x : Int} {t : List am_V} (hx : am_okJ x) (h : ∀ v ∈ t, am_okV n v) : ∀ v ∈ am_L x :: t, am_okV n v := am_ok1 (a := am_L x) hx h
theorem am_okR1 {n x : Int} {t : List am_V} (hx : x < n) (h : ∀ v ∈ t, am_okV n v) : ∀ v ∈ am_R x :: t, am_okV n v := am_ok1 (a := am_R x) hx h
theorem am_okt {n : Int} {a : am_V} {t : List am_V} (h : ∀ v ∈ a :: t, am_okV n v) : ∀ v ∈ t, am_okV n v := fun v hv => h v (List.mem_cons_of_mem _ hv)
theorem am_okh {n : Int} {a : am_V} {t : List am_V} (h : ∀ v ∈ a :: t, am_okV n v) : am_okV n a := h a List.mem_cons_self
theorem am_iconst {n : Int} (hd : decode M.2.1 pc = .ok (.iconst n, 1)) (hp : pc + 1 = pc') (hn : (decide (-2147483648 ≤ n) && decide (n < 2147483648)) = true) (k : am_WP M bc bs pc' ls (am_I n :: st) ρ h Q) : am_WP M bc bs pc ls st ρ h Q := by
  subst hp
  refine am_stk (fun p l e R s m args below meth c H locs cells slots Z lc ad hx hb _ _ os ol hl k => lv_iconst hx hb hd rfl k) (fun os _ => am_okI1 ?_ os) k
  simpa [am_okI] using hn
theorem am_bipush {n : Int} (hd : decode M.2.1 pc = .ok (.bipush n, 2)) (hp : pc + 2 = pc') (hn : (decide (-128 ≤ n) && decide (n < 128)) = true) (hv : (Int8.ofInt n).toInt32 = Int32.ofInt n) (k : am_WP M bc bs pc' ls (am_I n :: st) ρ h Q) : am_WP M bc bs pc ls st ρ h Q := by
  subst hp
  refine am_stk (fun p l e R s m args below meth c H locs cells slots Z lc ad hx hb _ _ os ol hl k => lv_bipush hx hb hd hv k) (fun os _ => am_okI1 ?_ os) k
  simp at hn
  exact ⟨by omega, by omega⟩
theorem am_sipush {n : Int} (hd : decode M.2.1 pc = .ok (.sipush n, 3)) (hp : pc + 3 = pc') (hn : (decide (-32768 ≤ n) && decide (n < 32768)) = true) (hv : (Int16.ofInt n).toInt32 = Int32.ofInt n) (k : am_WP M bc bs pc' ls (am_I n :: st) ρ h Q) : am_WP M bc bs pc ls st ρ h Q := by
  subst hp
  refine am_stk (fun p l e R s m args below meth c H locs cells slots Z lc ad hx hb _ _ os ol hl k => lv_sipush hx hb hd hv k) (fun os _ => am_okI1 ?_ os) k
  simp at hn
  exact ⟨by omega, by omega⟩
theorem am_lconst0 (hd : decode M.2.1 pc = .ok (.lconst 0, 1)) (hp : pc + 1 = pc') (k : am_WP M bc bs pc' ls (am_L 0 :: st) ρ h Q) : am_WP M bc bs pc ls st ρ h Q := by
  subst hp
  exact am_stk (fun p l e R s m args below meth c H locs cells slots Z lc ad hx hb _ _ os ol hl k => lv_lconst hx hb hd rfl k) (fun os _ => am_okL1 ⟨by decide, by decide⟩ os) k
theorem am_lconst1 (hd : decode M.2.1 pc = .ok (.lconst 1, 1)) (hp : pc + 1 = pc') (k : am_WP M bc bs pc' ls (am_L 1 :: st) ρ h Q) : am_WP M bc bs pc ls st ρ h Q := by
  subst hp
  exact am_stk (fun p l e R s m args below meth c H locs cells slots Z lc ad hx hb _ _ os ol hl k => lv_lconst hx hb hd rfl k) (fun os _ => am_okL1 ⟨by decide, by decide⟩ os) k
theorem am_ldcw {x : Int} {idx : Nat} {v : Int32} (hd : decode M.2.1 pc = .ok (.ldc_w idx, 3)) (hp : pc + 3 = pc') (hk : am_T (.constant M.1.cls idx v)) (hv : v = Int32.ofInt x) (hn : (decide (-2147483648 ≤ x) && decide (x < 2147483648)) = true) (k : am_WP M bc bs pc' ls (am_I x :: st) ρ h Q) : am_WP M bc bs pc ls st ρ h Q := by
  subst hp
  subst hv
  refine am_stk (fun p l e R s m args below meth c H locs cells slots Z lc ad hx hb ho ht os ol hl k => lv_ldcw hx hb ho (ht _ hk) hd k) (fun os _ => am_okI1 ?_ os) k
  simpa [am_okI] using hn
theorem am_ldc2 {x : Int} {idx : Nat} {v : Int64} (hd : decode M.2.1 pc = .ok (.ldc2_w idx, 3)) (hp : pc + 3 = pc') (hk : am_T (.constantLong M.1.cls idx v)) (hv : v = Int64.ofInt x) (hn : (decide (-9223372036854775808 ≤ x) && decide (x < 9223372036854775808)) = true) (k : am_WP M bc bs pc' ls (am_L x :: st) ρ h Q) : am_WP M bc bs pc ls st ρ h Q := by
  subst hp
  subst hv
  refine am_stk (fun p l e R s m args below meth c H locs cells slots Z lc ad hx hb ho ht os ol hl k => lv_ldc2 hx hb ho (ht _ hk) hd k) (fun os _ => am_okL1 ?_ os) k
  simpa [am_okJ] using hn
theorem am_iload_n {q : Fin 4} {i : Nat} {x : Int} (hd : decode M.2.1 pc = .ok (.iload_n q, 1)) (hp : pc + 1 = pc') (hi : (q : Nat) = i) (hl : ls[i]? = some (some (am_I x))) (k : am_WP M bc bs pc' ls (am_I x :: st) ρ h Q) : am_WP M bc bs pc ls st ρ h Q := by
  subst hp
  exact am_stk (fun p l e R s m args below meth c H locs cells slots Z lc ad hx hb _ _ os ol hv k => lv_iload_n hx hb hd hi (am_lv_at hv hl) k) (fun os ol => am_ok1 (ol _ (List.mem_of_getElem? hl)) os) k
theorem am_iload {i : Nat} {x : Int} (hd : decode M.2.1 pc = .ok (.iload i, 2)) (hp : pc + 2 = pc') (hl : ls[i]? = some (some (am_I x))) (k : am_WP M bc bs pc' ls (am_I x :: st) ρ h Q) : am_WP M bc bs pc ls st ρ h Q := by
  subst hp
  exact am_stk (fun p l e R s m args below meth c H locs cells slots Z lc ad hx hb _ _ os ol hv k => lv_iload hx hb hd (am_lv_at hv hl) k) (fun os ol => am_ok1 (ol _ (List.mem_of_getElem? hl)) os) k
theorem am_lload_n {q : Fin 4} {i : Nat} {x : Int} (hd : decode M.2.1 pc = .ok (.lload_n q, 1)) (hp : pc + 1 = pc') (hi : (q : Nat) = i) (hl : ls[i]? = some (some (am_L x))) (k : am_WP M bc bs pc' ls (am_L x :: st) ρ h Q) : am_WP M bc bs pc ls st ρ h Q := by
  subst hp
  exact am_stk (fun p l e R s m args below meth c H locs cells slots Z lc ad hx hb _ _ os ol hv k => lv_lload_n hx hb hd hi (am_lv_at hv hl) k) (fun os ol => am_ok1 (ol _ (List.mem_of_getElem? hl)) os) k
theorem am_lload {i : Nat} {x : Int} (hd : decode M.2.1 pc = .ok (.lload i, 2)) (hp : pc + 2 = pc') (hl : ls[i]? = some (some (am_L x))) (k : am_WP M bc bs pc' ls (am_L x :: st) ρ h Q) : am_WP M bc bs pc ls st ρ h Q := by
  subst hp
  exact am_stk (fun p l e R s m args below meth c H locs cells slots Z lc ad hx hb _ _ os ol hv k => lv_lload hx hb hd (am_lv_at hv hl) k) (fun os ol => am_ok1 (ol _ (List.mem_of_getElem? hl)) os) k
theorem am_aload_n {q : Fin 4} {i : Nat} {x : Int} (hd : decode M.2.1 pc = .ok (.aload_n q, 1)) (hp : pc + 1 = pc') (hi : (q : Nat) = i) (hl : ls[i]? = some (some (am_R x))) (k : am_WP M bc bs pc' ls (am_R x :: st) ρ h Q) : am_WP M bc bs pc ls st ρ h Q := by
  subst hp
  exact am_stk (fun p l e R s m args below meth c H locs cells slots Z lc ad hx hb _ _ os ol hv k => lv_aload_n hx hb hd hi (am_lv_at hv hl) k) (fun os ol => am_ok1 (ol _ (List.mem_of_getElem? hl)) os) k
theorem am_aload {i : Nat} {x : Int} (hd : decode M.2.1 pc = .ok (.aload i, 2)) (hp : pc + 2 = pc') (hl : ls[i]? = some (some (am_R x))) (k : am_WP M bc bs pc' ls (am_R x :: st) ρ h Q) : am_WP M bc bs pc ls st ρ h Q := by
  subst hp
  exact am_stk (fun p l e R s m args below meth c H locs cells slots Z lc ad hx hb _ _ os ol hv k => lv_aload hx hb hd (am_lv_at hv hl) k) (fun os ol => am_ok1 (ol _ (List.mem_of_getElem? hl)) os) k
/-! numbers -/
theorem am_iadd {a b : Int} (hd : decode M.2.1 pc = .ok (.iadd, 1)) (hp : pc + 1 = pc') (hr : am_okI (a + b)) (k : am_WP M bc bs pc' ls (am_I (a + b) :: st) ρ h Q) : am_WP M bc bs pc ls (am_I b :: am_I a :: st) ρ h Q := by
  subst hp
  refine am_stk (fun p l e R s m args below meth c H locs cells slots Z lc ad hx hb _ _ os ol hl k => lv_iadd hx hb hd ?_) (fun os _ => am_okI1 hr (am_okt (am_okt os))) k
  rw [← Int32.ofInt_add]; exact k
theorem am_iaddw {a b : Int} (hd : decode M.2.1 pc = .ok (.iadd, 1)) (hp : pc + 1 = pc') (k : am_WP M bc bs pc' ls (am_I (am_w (a + b)) :: st) ρ h Q) : am_WP M bc bs pc ls (am_I b :: am_I a :: st) ρ h Q := by
  subst hp
  refine am_stk (fun p l e R s m args below meth c H locs cells slots Z lc ad hx hb _ _ os ol hl k => lv_iadd hx hb hd ?_) (fun os _ => am_okI1 (am_w_ok _) (am_okt (am_okt os))) k
  rw [← Int32.ofInt_add, ← am_w_of]; exact k
theorem am_isub {a b : Int} (hd : decode M.2.1 pc = .ok (.isub, 1)) (hp : pc + 1 = pc') (hr : am_okI (a - b)) (k : am_WP M bc bs pc' ls (am_I (a - b) :: st) ρ h Q) : am_WP M bc bs pc ls (am_I b :: am_I a :: st) ρ h Q := by
  subst hp
  refine am_stk (fun p l e R s m args below meth c H locs cells slots Z lc ad hx hb _ _ os ol hl k => lv_isub hx hb hd ?_) (fun os _ => am_okI1 hr (am_okt (am_okt os))) k
  rw [← Int32.ofInt_sub]; exact k
theorem am_isubw {a b : Int} (hd : decode M.2.1 pc = .ok (.isub, 1)) (hp : pc + 1 = pc') (k : am_WP M bc bs pc' ls (am_I (am_w (a - b)) :: st) ρ h Q) : am_WP M bc bs pc ls (am_I b :: am_I a :: st) ρ h Q := by
  subst hp
  refine am_stk (fun p l e R s m args below meth c H locs cells slots Z lc ad hx hb _ _ os ol hl k => lv_isub hx hb hd ?_) (fun os _ => am_okI1 (am_w_ok _) (am_okt (am_okt os))) k
  rw [← Int32.ofInt_sub, ← am_w_of]; exact k
theorem am_imul {a b : Int} (hd : decode M.2.1 pc = .ok (.imul, 1)) (hp : pc + 1 = pc') (hr : am_okI (a * b)) (k : am_WP M bc bs pc' ls (am_I (a * b) :: st) ρ h Q) : am_WP M bc bs pc ls (am_I b :: am_I a :: st) ρ h Q := by
  subst hp
  refine am_stk (fun p l e R s m args below meth c H locs cells slots Z lc ad hx hb _ _ os ol hl k => lv_imul hx hb hd ?_) (fun os _ => am_okI1 hr (am_okt (am_okt os))) k
  rw [← Int32.ofInt_mul]; exact k
theorem am_imulw {a b : Int} (hd : decode M.2.1 pc = .ok (.imul, 1)) (hp : pc + 1 = pc') (k : am_WP M bc bs pc' ls (am_I (am_w (a * b)) :: st) ρ h Q) : am_WP M bc bs pc ls (am_I b :: am_I a :: st) ρ h Q := by
  subst hp
  refine am_stk (fun p l e R s m args below meth c H locs cells slots Z lc ad hx hb _ _ os ol hl k => lv_imul hx hb hd ?_) (fun os _ => am_okI1 (am_w_ok _) (am_okt (am_okt os))) k
  rw [← Int32.ofInt_mul, ← am_w_of]; exact k
theorem am_ineg {a : Int} (hd : decode M.2.1 pc = .ok (.ineg, 1)) (hp : pc + 1 = pc') (hr : am_okI (-a)) (k : am_WP M bc bs pc' ls (am_I (-a) :: st) ρ h Q) : am_WP M bc bs pc ls (am_I a :: st) ρ h Q := by
  subst hp
  refine am_stk (fun p l e R s m args below meth c H locs cells slots Z lc ad hx hb _ _ os ol hl k => lv_ineg hx hb hd ?_) (fun os _ => am_okI1 hr (am_okt os)) k
  rw [← Int32.ofInt_neg]; exact k
end AMR
