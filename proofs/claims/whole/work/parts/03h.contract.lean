/-! CONTRACTS -/
def am_W (M : am_M) : List Cond := .code M.1 M.2.1 M.2.2.1 M.2.2.2.1 :: am_G
def am_CT (M : am_M) (mc ms : Nat) (as : List am_V) (ρ h : am_H) (Q : am_Q) : Prop :=
  ∀ (l : Launch) (D : va_G) (cI cS : ClassId) (ad : Int → Nat) (sz : Nat), am_rng ρ h → (∀ v ∈ as, am_okV (ρ 0 0) v) →
    Met l M.1 (am_W M) { frames := M.2.2.2.2.1, cells := mc, slots := ms, locals := 36 * M.2.2.2.2.1 }
      (va_Pc (as.map (am_c ad)) (fun U => U.heap.size = sz ∧ va_P D vwCl (am_ws cI cS ad ρ h) U.heap ∧ va_K D vwCl [(cI, .int), (cS, .object RX4)] U ∧ va_D (fun _ => True) (am_ws cI cS ad ρ h) ∧ am_X U))
      (fun _ st oc t => (∃ (r : Option am_V) (ρ' h' : am_H) (ad' : Int → Nat), oc = .returned (r.map (am_c ad')) ∧ Q r ρ' h' ∧ (∀ v, r = some v → am_okV (ρ' 0 0) v) ∧ am_rng ρ' h' ∧ ρ 0 0 ≤ ρ' 0 0 ∧ (∀ x, x < ρ 0 0 → ad' x = ad x) ∧ va_P D vwCl (am_ws cI cS ad' ρ' h') t.heap ∧ va_D (va_A (am_ws cI cS ad ρ h) sz) (am_ws cI cS ad' ρ' h')) ∧ va_F (va_A (am_ws cI cS ad ρ h) sz) st t)
      mc ms (va_A (am_ws cI cS ad ρ h) sz)
def am_ok (M : am_M) (n : Nat) : Prop := am_T (.code M.1 M.2.1 M.2.2.1 M.2.2.2.1) ∧ am_T (.initialized M.1.cls) ∧ (M.1.cls ≠ "java/lang/invoke/MethodHandle" ∧ M.1.cls ≠ "java/lang/invoke/VarHandle") ∧ (parseMethodDescriptor M.1.desc).map (fun d => d.parameters.length) = some n ∧ M.2.2.1 ≤ 17 ∧ plainName M.1.cls = true
theorem am_W_good (M : am_M) {n : Nat} (h : am_ok M n) : GoodIn am_G (am_W M) := by
  intro w hw
  rcases List.mem_cons.mp hw with rfl | hw
  · exact ⟨am_G_iff.mpr h.1, good_of_word h.1.2⟩
  · exact ⟨hw, good_of_word (am_G_iff.mp hw).2⟩
theorem am_blind {as : List Value} {sz : Nat} {D : va_G} {ws : va_W} {tys : List (ClassId × FieldType)} : FrameBlind (va_Pc as (fun U => U.heap.size = sz ∧ va_P D vwCl ws U.heap ∧ va_K D vwCl tys U ∧ va_D (fun _ => True) ws ∧ am_X U)) := by
  intro a U g mk q
  obtain ⟨q0, q1, qP, qK, qD, qX⟩ := q
  exact ⟨q0, q1, qP, va_K.moved (u := U) (U := U.calling g mk a) (Vm.Alike.refl U.vm) qK, qD, am_X.same (u := U) (U := U.calling g mk a) rfl qX⟩
theorem am_A_sub {A : Nat → Prop} {H0 H : Heap} {locs : List Loc} {ws : va_W} (hD : va_D A ws) (hS : va_S A H0 H locs) (hA : ∀ q, H0.size ≤ q → A q) : ∀ q, va_A ws H.size q → A q := by
  intro q hq
  rcases hq with ⟨k, e, hk⟩ | hq
  · exact hD.2 k (q, e) hk
  · exact hA q (Nat.le_trans hS.1 hq)
/-- a method's contract out of its walk -/
theorem am_ct {M : am_M} {mc ms n : Nat} {as : List am_V} {ls : List (Option am_V)} {ρ h : am_H} {Q : am_Q} (hok : am_ok M n) (hS : M.2.2.2.2.2 = none) (hlen : ∀ ad, (lg_sl (as.map (am_c ad))).length ≤ M.2.2.1) (hls : ∀ ad, am_lv ad 0 ls = lv_args 0 (as.map (am_c ad))) (hmem : ∀ v, some v ∈ ls → v ∈ as)
    (hw : am_WP M mc ms 0 ls [] ρ h Q) : am_CT M mc ms as ρ h Q := by
  intro l D cI cS ad sz hrng hoks
  refine Met.ofW (cc := M.2.1) (maxL := M.2.2.1) (ret := M.2.2.2.1) (ws' := am_G) hok.2.2.2.2.2 rfl ?_
  intro p e s m args below meth c s₁ B hml hv
  obtain ⟨rfl, hsz, hP, hK, hD0, hX⟩ := hv
  have hx := B.exec
  have hb := B.bytes
  have hr := B.returns
  have hts := atoms_spec (ws := am_W M) B.pre
  have hown : s.vm.findClass M.1.cls = some m.cls := findClass_of_methodNamed B.named
  have hlocks := B.notSynchronized
  have hin : meth.name = M.1.name := (name_of_methodNamed B.named B.method).1
  subst hsz
  have hD := hD0.self (sz := s.heap.size)
  have hl := lv_entry (as.map (am_c ad)) (n := M.2.2.1) (hlen ad)
  rw [← hls ad] at hl
  rw [lg_entry_eq]
  refine hw p l e _ s m _ below meth c _ D cI cS (va_A (am_ws cI cS ad ρ h) s.heap.size) (ρ 0 0) ad ⟨⟨⟨hx, hb, hml, hown⟩, fun w hw => hts w (List.mem_cons_of_mem _ (am_G_iff.mpr hw)), fun z => hin.trans z, hK, fun q hq => Or.inr hq, rfl, rfl, hrng.1, by rw [hS]; trivial, hX⟩, ?_⟩ ad s.heap [] 0 0 _ ⟨hrng, Int.le_refl _, fun _ _ => rfl, hP, hD, va_S.rf⟩ (fun v hv => by cases hv) (fun v hv => hoks v (hmem v hv)) hl (Nat.le_of_eq (Nat.zero_add _)) (Nat.le_of_eq (Nat.zero_add _))
  intro r ρ' h' ad' H locs cells slots lc pc hq hrt hR hokr hc hs
  obtain ⟨r1, r2, r3, r4, r5, r6⟩ := hR
  rcases hrt with ⟨rfl, e1, e2⟩ | ⟨v, rfl, e1, e2⟩ | ⟨v, rfl, hv, e1, e2⟩ | ⟨v, rfl, e1, e2⟩
  · refine W.widen hc hs ?_
    exact W.vret hx hb (hr.trans e1) (fun t ht hW => ⟨⟨none, ρ', h', ad', rfl, hq, hokr, r1, r2, r3, by rw [ht]; exact r4, r5⟩, r6.F ht⟩) r6.2.2 e2
  · refine W.widen hc hs ?_
    exact W.iret hx hb (hr.trans e1) (fun t ht hW => ⟨⟨some (am_I v), ρ', h', ad', rfl, hq, hokr, r1, r2, r3, by rw [ht]; exact r4, r5⟩, r6.F ht⟩) r6.2.2 e2
  · refine W.widen hc hs ?_
    refine W.zret hx hb (hr.trans e1) ?_ (fun t ht hW => ⟨⟨some (am_I v), ρ', h', ad', rfl, hq, hokr, r1, r2, r3, by rw [ht]; exact r4, r5⟩, r6.F ht⟩) r6.2.2 e2
    rcases hv with rfl | rfl <;> rfl
  · refine W.widen hc hs ?_
    exact W.lret hx hb (hr.trans e1) (fun t ht hW => ⟨⟨some (am_L v), ρ', h', ad', rfl, hq, hokr, r1, r2, r3, by rw [ht]; exact r4, r5⟩, r6.F ht⟩) r6.2.2 e2
theorem am_CT_mono {M : am_M} {mc ms : Nat} {as : List am_V} {ρ h : am_H} {Q Q' : am_Q} (hc : am_CT M mc ms as ρ h Q) (hq : ∀ r ρ' h', Q r ρ' h' → Q' r ρ' h') : am_CT M mc ms as ρ h Q' := by
  intro l D cI cS ad sz hrng hoks
  have hM := hc l D cI cS ad sz hrng hoks
  intro p e ha hcc hk s m args below h1 h2 h3 h4
  obtain ⟨k, o, a1, a2, a3, ⟨⟨r, ρ', h', ad', b1, b2, b3⟩, b4⟩, b5⟩ := hM p e ha hcc hk s m args below h1 h2 h3 h4
  exact ⟨k, o, a1, a2, a3, ⟨⟨r, ρ', h', ad', b1, hq _ _ _ b2, b3⟩, b4⟩, b5⟩
section AMR
variable {M M' : am_M} {bc bs mc ms pc pc' tgt idx n : Nat} {ls ls' : List (Option am_V)} {st rest : List am_V} {ρ h : am_H} {Q Q' : am_Q}
/-- behind a call -/
theorem am_back {p : Program} {l : Launch} {e : Env} {R : Room} {s : State} {m : MethodId} {args : Array Value} {below : List Frame} {meth : Method} {c : Code} {Z : State → Prop} {D : va_G} {cI cS : ClassId} {A : Nat → Prop} {n0 : Int} {ad0 ad : Int → Nat} {H : Heap} {locs : List Loc} {cells slots : Nat} {lc : Array Slot} {stc : List Value}
    (Cx : am_Cx M Q p l e R s m args below meth c Z D cI cS A n0 ad0) (rl : am_Rl D cI cS A s n0 ad0 ad ρ h H locs) (os : ∀ v ∈ rest, am_okV (ρ 0 0) v) (ol : ∀ v, some v ∈ ls → am_okV (ρ 0 0) v) (hl : lv_has lc M.2.2.1 (am_lv ad 0 ls)) (hcs : cells + (mc + bc) ≤ R.cells) (hss : slots + (ms + bs) ≤ R.slots)
    (hr : va_Run p l e R s m args below meth c H locs cells slots mc ms (F0 m pc lc stc) (rest.map (am_c ad)) (fun st oc t => (∃ (r : Option am_V) (ρ' h' : am_H) (ad' : Int → Nat), oc = .returned (r.map (am_c ad')) ∧ Q' r ρ' h' ∧ (∀ v, r = some v → am_okV (ρ' 0 0) v) ∧ am_rng ρ' h' ∧ ρ 0 0 ≤ ρ' 0 0 ∧ (∀ x, x < ρ 0 0 → ad' x = ad x) ∧ va_P D vwCl (am_ws cI cS ad' ρ' h') t.heap ∧ va_D (va_A (am_ws cI cS ad ρ h) H.size) (am_ws cI cS ad' ρ' h')) ∧ va_F (va_A (am_ws cI cS ad ρ h) H.size) st t) (va_A (am_ws cI cS ad ρ h) H.size))
    (kk : ∀ r ρ' h', Q' r ρ' h' → am_rng ρ' h' → ρ 0 0 ≤ ρ' 0 0 → am_WP M bc bs (pc + 3) ls (r.toList ++ rest) ρ' h' Q) : W p l e R s m args below meth c H locs cells slots Z (F0 m pc lc stc) := by
  have hsub := am_A_sub rl.2.2.2.2.1 rl.2.2.2.2.2 Cx.1.2.2.2.2.1
  intro T hT X
  obtain ⟨v, st₀, t, T', L, h0, X', hL, e1, e2, ⟨⟨r, ρ', h', ad', hv, hq, hok, hrng, hle, hag, hP', hD'⟩, hF⟩, st⟩ := hr T hT X
  have hv' : v = r.map (am_c ad') := by cases hv; rfl
  subst hv'
  obtain ⟨hz, hk⟩ := hF
  rw [h0] at hz hk
  have hS' : va_S A s.heap T'.heap (locs ++ L) := ⟨Nat.le_trans rl.2.2.2.2.2.1 (by rw [e1]; exact hz), fun q h1 h2 => by rw [e1, hk q (Nat.lt_of_lt_of_le h1 rl.2.2.2.2.2.1) (fun z => h2 (hsub q z))]; exact rl.2.2.2.2.2.2.1 q h1 h2, fun q hq => by
    rcases List.mem_append.mp hq with z | z
    · exact rl.2.2.2.2.2.2.2 q z
    · exact hsub _ (hL q z)⟩
  have os' : ∀ v ∈ r.toList ++ rest, am_okV (ρ' 0 0) v := fun v hv => by
    rcases List.mem_append.mp hv with z | z
    · exact hok v (Option.mem_toList.mp z)
    · exact am_okV_mono hle (os v z)
  obtain ⟨t2, a1, b1⟩ := kk r ρ' h' hq hrng hle p l e R s m args below meth c Z D cI cS A n0 ad0 Cx ad' T'.heap (locs ++ L) (cells + mc) (slots + ms) lc ⟨hrng, Int.le_trans rl.2.1 hle, fun x hx => (hag x (Int.lt_of_lt_of_le hx rl.2.1)).trans (rl.2.2.1 x hx), by rw [e1]; exact hP', hD'.weaken (fun k q _ z => hsub _ z), hS'⟩ os' (fun v hv => am_okV_mono hle (ol v hv)) (by rw [am_lv_ext (ρ 0 0) hag ls 0 ol]; exact hl) (by omega) (by omega) T' rfl X'
  refine ⟨t2, st t2 ?_, b1⟩
  rw [List.map_append, am_st_ext hag os] at a1
  have e3 : (r.map (am_c ad')).toList = r.toList.map (am_c ad') := by cases r <;> rfl
  rw [e3]
  exact a1
theorem am_room {ad : Int → Nat} (h : rest.length ≤ 4) : ((rest.map (am_c ad)).map fun v => v.category).sum ≤ 8 := by
  have hc : ∀ v : am_V, (am_c ad v).category ≤ 2 := fun v => by
    rcases v with x | x | x
    · exact Nat.le_of_ble_eq_true rfl
    · exact Nat.le_of_ble_eq_true rfl
    · exact Nat.le_of_ble_eq_true rfl
  have key : ∀ l : List am_V, ((l.map (am_c ad)).map fun v => v.category).sum ≤ 2 * l.length := by
    intro l
    induction l with
    | nil => simp
    | cons a t ih => have := hc a; simp only [List.map_cons, List.sum_cons, List.length_cons]; omega
  have := key rest
  omega
theorem am_callV {as : List am_V} {b : Int} {ci N : Nat} {C : String} {T : u_T} (hd : decode M.2.1 pc = .ok (.invokevirtual idx, 3)) (hp : pc + 3 = pc') (hok : am_ok M' n) (lk : am_T (.methodLink M.1.cls idx M'.1)) (wi : am_T (.instanceMethod M'.1)) (ws : am_T (.selects C M'.1 M'.1)) (hc : vwCl[ci]? = some (C, T, N)) (hlev : M'.2.2.2.2.1 + 1 ≤ M.2.2.2.2.1) (hb : am_in ρ b ci) (hn : as.length = n) (hrest : rest.length ≤ 4) (hst : st = as.reverse ++ am_R b :: rest)
    (ct : am_CT M' mc ms (am_R b :: as) ρ h Q') (kk : ∀ r ρ' h', Q' r ρ' h' → am_rng ρ' h' → ρ 0 0 ≤ ρ' 0 0 → am_WP M bc bs pc' ls (r.toList ++ rest) ρ' h' Q) : am_WP M (mc + bc) (ms + bs) pc ls st ρ h Q := by
  subst hp
  subst hst
  intro p l e R s m args below meth c Z D cI cS A n0 ad0 Cx ad H locs cells slots lc rl os ol hl hcs hss
  obtain ⟨w1, w2, w3, w4, w5, w6⟩ := id hok
  have hR : R.frames = M.2.2.2.2.1 := Cx.1.2.2.2.2.2.1
  have hL : R.locals = 36 * M.2.2.2.2.1 := Cx.1.2.2.2.2.2.2.1
  have hoka : ∀ v ∈ am_R b :: as, am_okV (ρ 0 0) v := fun v hv => os v (by
    rcases List.mem_cons.mp hv with rfl | z
    · exact List.mem_append_right _ List.mem_cons_self
    · exact List.mem_append_left _ (List.mem_reverse.mpr z))
  have he := am_ws_get (cI := cI) (cS := cS) (ad := ad) (h := h) hb.1 hb.2.1
  rw [am_E_obj hb.2.2 (am_cls hc).2.2.2.2] at he
  have hM := ct l D cI cS ad H.size rl.1 hoka
  have cb := callB_of (R := R) (s := s) (args := args) (own := M.1.cls) (index := idx) (y := M'.1) (bytes := M'.2.1) (maxL := M'.2.2.1) (ret := M'.2.2.2.1) (ws := am_W M') (ws' := am_G) (rm := { frames := M'.2.2.2.2.1, cells := mc, slots := ms, locals := 36 * M'.2.2.2.2.1 }) (mc := mc) (ms := ms) n (am_hts Cx.1.2.1) (am_W_good M' hok) rfl rfl rfl (Cx.1.2.1 _ w2) (Cx.1.2.1 _ lk) ⟨w3.1, w3.2, w4⟩ ⟨by rw [hR]; exact hlev, by rw [hL]; show 8 + (M'.2.2.1 + 11) + 36 * M'.2.2.2.2.1 ≤ _; omega⟩
  have hr := va_runV (As := as.map (am_c ad)) (rest := rest.map (am_c ad)) (b := ad b) (g := F0 m pc lc ((as.reverse ++ am_R b :: rest).map (am_c ad))) (e := e) (below := below) (meth := meth) (locs := locs) (cells := cells) (slots := slots) (Ts := am_G) ⟨Cx.1.1.1, Cx.1.1.2.1, Cx.1.1.2.2.1, Cx.1.1.2.2.2, am_hts Cx.1.2.1⟩ hM ⟨cb, Cx.1.2.1 _ wi, Cx.1.2.1 _ ws⟩
    ⟨am_blind, va_recv Cx.1.2.2.2.1 rl.2.2.2.1 hc he, fun U hU hW => ⟨rfl, by rw [hU], by rw [hU]; exact rl.2.2.2.1, va_K.moved hW.alike Cx.1.2.2.2.1, rl.2.2.2.2.1.weaken (fun _ _ _ _ => trivial), am_X.warm hW Cx.1.2.2.2.2.2.2.2.2.2⟩⟩ rfl (by simpa using hn) hl.1 (by simp [List.map_reverse, am_c_R]) (lv_room (am_room hrest)) hd ⟨by omega, by omega⟩
  exact am_back Cx rl (fun v hv => os v (List.mem_append_right _ (List.mem_cons_of_mem _ hv))) ol hl hcs hss hr kk
theorem am_callS {as : List am_V} (hd : decode M.2.1 pc = .ok (.invokestatic idx, 3)) (hp : pc + 3 = pc') (hok : am_ok M' n) (lk : am_T (.methodLink M.1.cls idx M'.1)) (wi : am_T (.static M'.1)) (hlev : M'.2.2.2.2.1 + 1 ≤ M.2.2.2.2.1) (hn : as.length = n) (hrest : rest.length ≤ 4) (hst : st = as.reverse ++ rest)
    (ct : am_CT M' mc ms as ρ h Q') (kk : ∀ r ρ' h', Q' r ρ' h' → am_rng ρ' h' → ρ 0 0 ≤ ρ' 0 0 → am_WP M bc bs pc' ls (r.toList ++ rest) ρ' h' Q) : am_WP M (mc + bc) (ms + bs) pc ls st ρ h Q := by
  subst hp
  subst hst
  intro p l e R s m args below meth c Z D cI cS A n0 ad0 Cx ad H locs cells slots lc rl os ol hl hcs hss
  obtain ⟨w1, w2, w3, w4, w5, w6⟩ := id hok
  have hR : R.frames = M.2.2.2.2.1 := Cx.1.2.2.2.2.2.1
  have hL : R.locals = 36 * M.2.2.2.2.1 := Cx.1.2.2.2.2.2.2.1
  have hoka : ∀ v ∈ as, am_okV (ρ 0 0) v := fun v hv => os v (List.mem_append_left _ (List.mem_reverse.mpr hv))
  have hM := ct l D cI cS ad H.size rl.1 hoka
  have cb := callB_of (R := R) (s := s) (args := args) (own := M.1.cls) (index := idx) (y := M'.1) (bytes := M'.2.1) (maxL := M'.2.2.1) (ret := M'.2.2.2.1) (ws := am_W M') (ws' := am_G) (rm := { frames := M'.2.2.2.2.1, cells := mc, slots := ms, locals := 36 * M'.2.2.2.2.1 }) (mc := mc) (ms := ms) n (am_hts Cx.1.2.1) (am_W_good M' hok) rfl rfl rfl (Cx.1.2.1 _ w2) (Cx.1.2.1 _ lk) ⟨w3.1, w3.2, w4⟩ ⟨by rw [hR]; exact hlev, by rw [hL]; show 8 + (M'.2.2.1 + 11) + 36 * M'.2.2.2.2.1 ≤ _; omega⟩
  have hr := va_runS (As := as.map (am_c ad)) (rest := rest.map (am_c ad)) (g := F0 m pc lc ((as.reverse ++ rest).map (am_c ad))) (e := e) (below := below) (meth := meth) (locs := locs) (cells := cells) (slots := slots) (Ts := am_G) ⟨Cx.1.1.1, Cx.1.1.2.1, Cx.1.1.2.2.1, Cx.1.1.2.2.2, am_hts Cx.1.2.1⟩ hM ⟨cb, Cx.1.2.1 _ wi⟩
    ⟨am_blind, fun U hU hW => ⟨rfl, by rw [hU], by rw [hU]; exact rl.2.2.2.1, va_K.moved hW.alike Cx.1.2.2.2.1, rl.2.2.2.2.1.weaken (fun _ _ _ _ => trivial), am_X.warm hW Cx.1.2.2.2.2.2.2.2.2.2⟩⟩ rfl (by simpa using hn) hl.1 (by simp [List.map_reverse]) (lv_room (am_room hrest)) hd ⟨by omega, by omega⟩
  exact am_back Cx rl (fun v hv => os v (List.mem_append_right _ hv)) ol hl hcs hss hr kk
theorem am_callI {b : Int} (hd : decode M.2.1 pc = .ok (.invokespecial idx, 3)) (hp : pc + 3 = pc') (hok : am_ok M' 0) (hret : M'.2.2.2.1 = none) (lk : am_T (.methodLink M.1.cls idx M'.1)) (wi : am_T (.instanceMethod M'.1)) (hy : M'.1.name = "<init>") (hlev : M'.2.2.2.2.1 + 1 ≤ M.2.2.2.2.1) (hrest : rest.length ≤ 4)
    (ct : am_CT M' mc ms [am_R b] ρ h Q') (kk : ∀ r ρ' h', Q' r ρ' h' → am_rng ρ' h' → ρ 0 0 ≤ ρ' 0 0 → am_WP M bc bs pc' ls (r.toList ++ rest) ρ' h' Q) : am_WP M (mc + bc) (ms + bs) pc ls (am_R b :: rest) ρ h Q := by
  subst hp
  intro p l e R s m args below meth c Z D cI cS A n0 ad0 Cx ad H locs cells slots lc rl os ol hl hcs hss
  obtain ⟨w1, w2, w3, w4, w5, w6⟩ := id hok
  have hR : R.frames = M.2.2.2.2.1 := Cx.1.2.2.2.2.2.1
  have hL : R.locals = 36 * M.2.2.2.2.1 := Cx.1.2.2.2.2.2.2.1
  have hoka : ∀ v ∈ [am_R b], am_okV (ρ 0 0) v := fun v hv => os v (by rw [List.mem_singleton.mp hv]; exact List.mem_cons_self)
  have hM := ct l D cI cS ad H.size rl.1 hoka
  have cb := callB_of (R := R) (s := s) (args := args) (own := M.1.cls) (index := idx) (y := M'.1) (bytes := M'.2.1) (maxL := M'.2.2.1) (ret := none) (ws := am_W M') (ws' := am_G) (rm := { frames := M'.2.2.2.2.1, cells := mc, slots := ms, locals := 36 * M'.2.2.2.2.1 }) (mc := mc) (ms := ms) 0 (am_hts Cx.1.2.1) (am_W_good M' hok) (by unfold am_W; rw [hret]) rfl rfl (Cx.1.2.1 _ w2) (Cx.1.2.1 _ lk) ⟨w3.1, w3.2, w4⟩ ⟨by rw [hR]; exact hlev, by rw [hL]; show 8 + (M'.2.2.1 + 11) + 36 * M'.2.2.2.2.1 ≤ _; omega⟩
  have hr := va_runI (As := []) (rest := rest.map (am_c ad)) (b := ad b) (g := F0 m pc lc ((am_R b :: rest).map (am_c ad))) (e := e) (below := below) (meth := meth) (locs := locs) (cells := cells) (slots := slots) (Ts := am_G) ⟨Cx.1.1.1, Cx.1.1.2.1, Cx.1.1.2.2.1, Cx.1.1.2.2.2, am_hts Cx.1.2.1⟩ hM ⟨cb, hy, Cx.1.2.1 _ wi⟩
    ⟨am_blind, fun U hU hW => ⟨rfl, by rw [hU], by rw [hU]; exact rl.2.2.2.1, va_K.moved hW.alike Cx.1.2.2.2.1, rl.2.2.2.2.1.weaken (fun _ _ _ _ => trivial), am_X.warm hW Cx.1.2.2.2.2.2.2.2.2.2⟩⟩ rfl rfl hl.1 (by simp [am_c_R]) (lv_room (am_room hrest)) hd ⟨by omega, by omega⟩
  exact am_back Cx rl (am_okt os) ol hl hcs hss hr kk
theorem am_callIN {b : Int} {host : String} (hd : decode M.2.1 pc = .ok (.invokespecial idx, 3)) (hp : pc + 3 = pc') (hok : am_ok M' 0) (hret : M'.2.2.2.1 = none) (lk : .methodLinkNest M.1.cls idx M'.1 host ∈ am_nest) (wi : am_T (.instanceMethod M'.1)) (hy : M'.1.name = "<init>") (hlev : M'.2.2.2.2.1 + 1 ≤ M.2.2.2.2.1) (hrest : rest.length ≤ 4)
    (ct : am_CT M' mc ms [am_R b] ρ h Q') (kk : ∀ r ρ' h', Q' r ρ' h' → am_rng ρ' h' → ρ 0 0 ≤ ρ' 0 0 → am_WP M bc bs pc' ls (r.toList ++ rest) ρ' h' Q) : am_WP M (mc + bc) (ms + bs) pc ls (am_R b :: rest) ρ h Q := by
  subst hp
  intro p l e R s m args below meth c Z D cI cS A n0 ad0 Cx ad H locs cells slots lc rl os ol hl hcs hss
  obtain ⟨w1, w2, w3, w4, w5, w6⟩ := id hok
  have hR : R.frames = M.2.2.2.2.1 := Cx.1.2.2.2.2.2.1
  have hL : R.locals = 36 * M.2.2.2.2.1 := Cx.1.2.2.2.2.2.2.1
  have hoka : ∀ v ∈ [am_R b], am_okV (ρ 0 0) v := fun v hv => os v (by rw [List.mem_singleton.mp hv]; exact List.mem_cons_self)
  have hM := ct l D cI cS ad H.size rl.1 hoka
  have cb := va_cnB (R := R) (s := s) (args := args) (own := M.1.cls) (host := host) (index := idx) (y := M'.1) (bytes := M'.2.1) (maxL := M'.2.2.1) (ret := none) (Ts := am_G) (ws := am_W M') (ws' := am_G) (rm := { frames := M'.2.2.2.2.1, cells := mc, slots := ms, locals := 36 * M'.2.2.2.2.1 }) (mc := mc) (ms := ms) 0 (am_hts Cx.1.2.1) (am_W_good M' hok) (by unfold am_W; rw [hret]) rfl rfl (Cx.1.2.2.2.2.2.2.2.2.2.1 _ lk) (Cx.1.2.1 _ w2) ⟨w3.1, w3.2, w4⟩ ⟨by rw [hR]; exact hlev, by rw [hL]; show 8 + (M'.2.2.1 + 11) + 36 * M'.2.2.2.2.1 ≤ _; omega⟩
  have hr := va_runIN (As := []) (rest := rest.map (am_c ad)) (b := ad b) (g := F0 m pc lc ((am_R b :: rest).map (am_c ad))) (e := e) (below := below) (meth := meth) (locs := locs) (cells := cells) (slots := slots) (Ts := am_G) ⟨Cx.1.1.1, Cx.1.1.2.1, Cx.1.1.2.2.1, Cx.1.1.2.2.2, am_hts Cx.1.2.1⟩ hM ⟨cb, hy, Cx.1.2.1 _ wi⟩
    ⟨am_blind, fun U hU hW => ⟨rfl, by rw [hU], by rw [hU]; exact rl.2.2.2.1, va_K.moved hW.alike Cx.1.2.2.2.1, rl.2.2.2.2.1.weaken (fun _ _ _ _ => trivial), am_X.warm hW Cx.1.2.2.2.2.2.2.2.2.2⟩⟩ rfl rfl hl.1 (by simp [am_c_R]) (lv_room (am_room hrest)) hd ⟨by omega, by omega⟩
  exact am_back Cx rl (am_okt os) ol hl hcs hss hr kk
end AMR
