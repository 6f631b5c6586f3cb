/-! THE CLAIM OUT OF ONE WALK OF THE LAW'S BODY. Your part is whole_start (and what it stands on); all else here is the same for every law, but numbers. -/
def R_law : String := "DifferRingsLaw"
def lw_P (b : Addr) (xs : List Int32) (args : Array Value) (s : State) : Prop := args = #[.ref b] ∧ s.IntsAt b xs ∧ xs.length ≤ 3072 ∧ (Jvm.Cond.and given_1 narrow_1).before args s = true
def lw_Q (_ : Array Value) (s : State) (o : Outcome) (t : State) : Prop := o = .returned (some (.int 1)) ∧ Framed s o t [] 600000 7302250
def lw_Z (below : List Frame) (a : Array Value) (s : State) : State → Prop := fun t => ∃ o, t.status = .running ∧ Ended t below o ∧ lw_Q a s o t
/-- the law's own end, with 1 on the stack, nothing written that was there before, its room as the claim has it -/
theorem lw_ret {p : Program} {l : Launch} {e : Env} {s : State} {m : MethodId} {below : List Frame} {meth : Method} {c : Code} {b : Nat} (hx : p.tables.exec = Jvm.exec) (hb : c.code = code) (hr : meth.sig.returnType = ret) (hlocks : meth.locks = false) {pc : Nat} {H : Heap} {ls : Array Slot} (hdg : decode code pc = .ok (.ireturn, 1)) : W p l e room_1 s m #[Value.ref b] below meth c H [] 600000 7302250 (lw_Z below #[Value.ref b] s) (F0 m pc ls [.int 1]) := by
  intro T hT X
  obtain ⟨fs, hret, hrun, hended, hW, hframe⟩ := X.leave (v := some (.int 1)) (hlocks := hlocks) (fun h => by rw [hr] at h; cases h)
  have hmeth' : T.vm.method? m = some meth := X.method'
  refine ⟨T.setFrames fs, ?_, .returned (some (.int 1)), hrun, hended, rfl, ⟨_, rfl⟩, hW, hframe⟩
  jvm_step X.here [X.here.top, hx, hb, hdg, hmeth', hr, ret, narrow_b1]
  (try refine ⟨rfl, ?_⟩); (try refine ⟨rfl, ?_⟩)
  first | (intro acts; rw [hret _ acts rfl rfl rfl]) | rw [hret _ _ rfl rfl rfl]
  exact Steps.refl _
/-- what holds at the law's entry: the machine, the code, the tables' words (any of lw_tbl by 'hts w (by decide +kernel)'), the script of L ints xs at the cell b, what the Statement gives of the start (any of its parts by flat_of_before) -/
def lw_At (p : Program) (s : State) (m : MethodId) (meth : Method) (c : Code) (b L : Nat) (xs : Nat → Int32) : Prop :=
  p.tables.exec = Jvm.exec ∧ c.code = code ∧ meth.sig.returnType = ret ∧ c.maxLocals = 4 ∧ s.vm.findClass R_law = some m.cls ∧ (∀ w ∈ lw_tbl, w.before #[Value.ref b] s = true) ∧ va_X b L xs s s.heap ∧ b < s.heap.size ∧ meth.locks = false ∧ (Jvm.Cond.and given_1 narrow_1).before #[Value.ref b] s = true
def lw_r0 : am_H := fun x k => if x = 0 ∧ k = 0 then 1 else 0
theorem lw_r00 : lw_r0 0 0 = 1 := by
  unfold lw_r0
  rw [if_pos ⟨rfl, rfl⟩]
theorem lw_r0n {x k : Int} (z : ¬ (x = 0 ∧ k = 0)) : lw_r0 x k = 0 := by
  unfold lw_r0
  rw [if_neg z]
theorem lw_r0ws (cI cS : ClassId) (ad : Int → Nat) (h : am_H) : am_ws cI cS ad lw_r0 h = [] := by
  unfold am_ws
  rw [lw_r00]
  rfl
theorem lw_r0rng : am_rng lw_r0 (fun _ _ => 0) := by
  refine ⟨by rw [lw_r00]; decide, fun _ _ => am_ok0, fun x => ?_, fun x k hx hk => ?_⟩
  · rw [lw_r0n (by omega)]
    omega
  · rw [lw_r0n (by omega), lw_r00]
    omega
theorem lw_known {s : State} {args : Array Value} (hT : ∀ w, am_T w → w.before args s = true) (ci : Nat) (q : vw_C) (hq : vwCl[ci]? = some q) : ∃ (cC : ClassId) (iS : Nat → Nat), u_Kn s q.1 q.2.1 q.2.2 cC iS := by
  have hG : ∀ w ∈ am_G, w.before args s = true := fun w hw => hT w (am_G_iff.mp hw)
  match ci, hq with
  | 0, hq => cases hq; exact u_known (n := 14) hG (am_cls (ci := 0) rfl).1 (hT _ ia_X0)
  | 1, hq => cases hq; exact u_known (n := 3) hG (am_cls (ci := 1) rfl).1 (hT _ ia_X1)
  | 2, hq => cases hq; exact u_known (n := 4) hG (am_cls (ci := 2) rfl).1 (hT _ ia_X2)
  | 3, hq => cases hq; exact u_known (n := 5) hG (am_cls (ci := 3) rfl).1 (hT _ ia_X3)
  | 4, hq => cases hq; exact u_known (n := 3) hG (am_cls (ci := 4) rfl).1 (hT _ ia_X4)
  | 5, hq => cases hq; exact u_known (n := 5) hG (am_cls (ci := 5) rfl).1 (hT _ ia_X5)
  | 6, hq => cases hq; exact u_known (n := 10) hG (am_cls (ci := 6) rfl).1 (hT _ ia_X7)
  | 7, hq => cases hq; exact u_known (n := 32) hG (am_cls (ci := 7) rfl).1 (hT _ ia_X8)
  | k + 8, hq => simp [vwCl] at hq
/-- from the entry, for every script of at most 3072 ints, the law comes to its end with true -/
theorem whole_start {p : Program} {e : Env} {s : State} {m : MethodId} {below : List Frame} {meth : Method} {c : Code} (l : Launch) (hflags : l.flags = flags0) {b L : Nat} {xs : Nat → Int32} (hL : L ≤ 3072) (C0 : lw_At p s m meth c b L xs) : W p l e room_1 s m #[Value.ref b] below meth c s.heap [] 0 0 (lw_Z below #[Value.ref b] s) (entryFrame m ([Value.ref b] : List Value).toArray 4) := by
  obtain ⟨hx, hb, hr, hml, hown, hts, hX, hbl, hlocks, hgv⟩ := id C0
  have hT : ∀ w, am_T w → w.before #[Value.ref b] s = true := fun w hw => hts w hw.1
  have kn2 : ∀ ci : Nat, ∃ (cC : ClassId) (iS : Nat → Nat), ∀ q, vwCl[ci]? = some q → u_Kn s q.1 q.2.1 q.2.2 cC iS := by
    intro ci
    cases hq : vwCl[ci]? with
    | none => exact ⟨m.cls, fun _ => 0, fun q z => by cases z⟩
    | some q =>
      obtain ⟨cC, iS, z⟩ := lw_known hT ci q hq
      exact ⟨cC, iS, fun q' h' => by cases h'; exact z⟩
  obtain ⟨dC, hdC⟩ := Classical.axiomOfChoice kn2
  obtain ⟨dI, hdI⟩ := Classical.axiomOfChoice hdC
  obtain ⟨cI, kI, compI, f1, f2, f3⟩ := Cond.arrayClass_spec (hT _ ac_int)
  obtain ⟨comp, cS, kS, g1, g2, g3, g4, g5⟩ := Cond.arrayOver_spec (hts _ ao_in)
  have hK : va_K (dC, dI) vwCl [(cI, .int), (cS, .object RX4)] s := by
    refine ⟨fun k q hq => hdI k q hq, fun k q hq => ?_⟩
    match k, hq with
    | 0, hq => cases hq; exact ⟨fun N z => ⟨(fun k h => by cases h), kI, f2, compI, f3⟩, f1⟩
    | 1, hq => cases hq; exact ⟨fun N z => ⟨(fun k h => by cases h), kS, g3, comp, g4⟩, kS, comp, g3, g4, g1, g5⟩
    | k + 2, hq => simp at hq
  have hXX : am_X s := ⟨fun w hw => by
    have h1 := hts w (am_nest_in w hw)
    obtain ⟨a, i, x, hh, rfl⟩ := am_nestw w hw
    exact va_Nw.of rfl h1, va_AO.of (hts _ ao_in)⟩
  have ex : (fun j : Nat => Int32.ofInt ((xs ((j : Int)).toNat).toInt)) = xs := funext fun j => by rw [Int32.ofInt_toInt, Int.toNat_natCast]
  have hX2 := hX
  rw [← ex] at hX2
  have key := lw_main (Lx := L) (xs := fun j => (xs j.toNat).toInt) (Q := fun r _ _ => r = some (am_I 1)) (ρ := lw_r0) (h := fun _ _ => 0) hL (fun _ _ => rfl) ⟨⟨by decide, lw_r00⟩, fun y j y0 y1 => by omega, fun y j y0 y1 => by omega, fun q hq => by simp at hq, fun q hq => by simp at hq⟩
  have hl := lv_entry ([.ref b]) (n := 4) (Nat.le_of_ble_eq_true rfl)
  rw [lg_entry_eq]
  refine key p l e room_1 s m _ below meth c _ (dC, dI) cI cS (fun q => s.heap.size ≤ q) 1 (fun _ => b) ⟨⟨⟨hx, hb, hml, hown⟩, hT, fun z => absurd (show ("law" : String) = "<init>" from z) (by decide), hK, fun q hq => hq, rfl, rfl, by decide, ⟨hX2, hbl, Nat.not_le.mpr hbl, by omega, fun j => am_okw _⟩, hXX⟩, ?_⟩ (fun _ => b) s.heap [] 0 0 _ ⟨lw_r0rng, by rw [lw_r00]; decide, fun _ _ => rfl, by rw [lw_r0ws]; exact fun k q h => by simp at h, by rw [lw_r0ws]; exact ⟨fun i j p q h => by simp at h, fun k q h => by simp at h⟩, va_S.rf⟩ (fun v hv => by cases hv) (fun v hv => ?_) hl (Nat.le_of_ble_eq_true rfl) (Nat.le_of_ble_eq_true rfl)
  · intro r ρ' h' ad' H locs cells slots lc pc hq hrt hR hok hc hs
    subst hq
    rcases hrt with ⟨z, _⟩ | ⟨v, z, z2, _⟩ | ⟨v, z, z1, z2, hd⟩ | ⟨v, z, _⟩
    · cases z
    · have z3 : (some FieldType.boolean : Option FieldType) = some FieldType.int := z2
      cases z3
    · refine va_forget (fun q hq => hR.2.2.2.2.2.2.2 q hq) ?_
      refine W.widen (k := 600000) (n := 7302250) hc hs ?_
      have e1 : Int32.ofInt 1 = 1 := by decide
      have kw := lw_ret (p := p) (l := l) (e := e) (s := s) (m := m) (below := below) (meth := meth) (c := c) (b := b) (pc := pc) (H := H) (ls := lc) hx hb hr hlocks hd
      rw [← e1] at kw
      exact kw
    · have z3 : (Sum.inl 1 : am_V) = Sum.inr (Sum.inl v) := Option.some.inj z
      cases z3
  · have z : v = am_R (-1) := by simpa using hv
    subst z
    show (-1 : Int) < lw_r0 0 0
    rw [lw_r00]
    decide
