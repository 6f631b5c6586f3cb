/-! the rules as the printed walks use them -/
section AMR
variable {M M' : am_M} {bc bs mc ms pc pc' tgt idx n : Nat} {ls ls' : List (Option am_V)} {st rest : List am_V} {ρ h : am_H} {Q Q' : am_Q}
theorem am_getIk {x ki : Int} {ci k : Nat} (e : ((k : Nat) : Int) = ki) (hd : decode M.2.1 pc = .ok (.getfield idx, 3)) (hp : pc + 3 = pc') (lk : am_fl M.1.cls idx ci k) (hx : am_in ρ x ci) (hI : am_isI ci k = true) (kk : am_WP M bc bs pc' ls (am_I (h x ki) :: st) ρ h Q) : am_WP M bc bs pc ls (am_R x :: st) ρ h Q := by
  subst e
  exact am_getI hd hp lk hx hI kk
theorem am_getRk {x y ki : Int} {ci k : Nat} (e : ((k : Nat) : Int) = ki) (hd : decode M.2.1 pc = .ok (.getfield idx, 3)) (hp : pc + 3 = pc') (lk : am_fl M.1.cls idx ci k) (hx : am_in ρ x ci) (hI : am_isI ci k = false) (hy : ρ x ki = y) (hy0 : 0 < y) (kk : am_WP M bc bs pc' ls (am_R y :: st) ρ h Q) : am_WP M bc bs pc ls (am_R x :: st) ρ h Q := by
  subst e
  exact am_getR hd hp lk hx hI hy hy0 kk
theorem am_putIk {x v ki : Int} {ci k : Nat} (e : ((k : Nat) : Int) = ki) (hd : decode M.2.1 pc = .ok (.putfield idx, 3)) (hp : pc + 3 = pc') (lk : am_fl M.1.cls idx ci k) (hx : am_in ρ x ci) (hI : am_isI ci k = true) (hfin : ∀ C T N, vwCl[ci]? = some (C, T, N) → (T k).2.2.2 = false) (kk : am_WP M bc bs pc' ls st ρ (am_u h x ki v) Q) : am_WP M bc bs pc ls (am_I v :: am_R x :: st) ρ h Q := by
  subst e
  exact am_putI hd hp lk hx hI kk hfin
theorem am_putRk {x v ki : Int} {ci k : Nat} (e : ((k : Nat) : Int) = ki) (hd : decode M.2.1 pc = .ok (.putfield idx, 3)) (hp : pc + 3 = pc') (lk : am_fl M.1.cls idx ci k) (hx : am_in ρ x ci) (hI : am_isI ci k = false) (hv0 : 0 < v) (hfin : ∀ C T N, vwCl[ci]? = some (C, T, N) → (T k).2.2.2 = false) (kk : am_WP M bc bs pc' ls st (am_u ρ x ki v) h Q) : am_WP M bc bs pc ls (am_R v :: am_R x :: st) ρ h Q := by
  subst e
  exact am_putR hd hp lk hx hI hv0 kk hfin
theorem am_putFk {x v ki : Int} {ci k : Nat} (e : ((k : Nat) : Int) = ki) (hd : decode M.2.1 pc = .ok (.putfield idx, 3)) (hp : pc + 3 = pc') (lk : am_fl M.1.cls idx ci k) (hx : am_in ρ x ci) (hI : am_isI ci k = false) (hv0 : 0 < v) (hfin : ∀ C T N, vwCl[ci]? = some (C, T, N) → (T k).2.2.2 = true ∧ (T k).1 = M.1.cls) (hin2 : M.1.name = "<init>") (kk : am_WP M bc bs pc' ls st (am_u ρ x ki v) h Q) : am_WP M bc bs pc ls (am_R v :: am_R x :: st) ρ h Q := by
  subst e
  exact am_putF hd hp lk hx hI hv0 kk hfin hin2
/-- a pure call: the answer alone -/
def am_P (v : am_V) (ρ h : am_H) : am_Q := fun r ρ' h' => r = some v ∧ ρ' = ρ ∧ h' = h
theorem am_callVg {as : List am_V} {b : Int} {ci N : Nat} {C : String} {T : u_T} (hst : st = as.reverse ++ am_R b :: rest) (hd : decode M.2.1 pc = .ok (.invokevirtual idx, 3)) (hp : pc + 3 = pc') (hok : am_ok M' n) (lk : am_T (.methodLink M.1.cls idx M'.1)) (wi : am_T (.instanceMethod M'.1)) (ws : am_T (.selects C M'.1 M'.1)) (hc : vwCl[ci]? = some (C, T, N)) (hlev : M'.2.2.2.2.1 + 1 ≤ M.2.2.2.2.1) (hn : as.length = n) (hrest : rest.length ≤ 4) (hb : am_in ρ b ci)
    (ct : am_CT M' mc ms (am_R b :: as) ρ h Q') (kk : ∀ r ρ' h', Q' r ρ' h' → am_rng ρ' h' → ρ 0 0 ≤ ρ' 0 0 → am_WP M bc bs pc' ls (r.toList ++ rest) ρ' h' Q) : am_WP M (mc + bc) (ms + bs) pc ls st ρ h Q := am_callV hd hp hok lk wi ws hc hlev hb hn hrest hst ct kk
theorem am_callV0 {as : List am_V} {b : Int} {ci N : Nat} {C : String} {T : u_T} (hst : st = as.reverse ++ am_R b :: rest) (hd : decode M.2.1 pc = .ok (.invokevirtual idx, 3)) (hp : pc + 3 = pc') (hok : am_ok M' n) (lk : am_T (.methodLink M.1.cls idx M'.1)) (wi : am_T (.instanceMethod M'.1)) (ws : am_T (.selects C M'.1 M'.1)) (hc : vwCl[ci]? = some (C, T, N)) (hlev : M'.2.2.2.2.1 + 1 ≤ M.2.2.2.2.1) (hn : as.length = n) (hrest : rest.length ≤ 4) (hb : am_in ρ b ci)
    (ct : am_CT M' 0 0 (am_R b :: as) ρ h Q') (kk : ∀ r ρ' h', Q' r ρ' h' → am_rng ρ' h' → ρ 0 0 ≤ ρ' 0 0 → am_WP M bc bs pc' ls (r.toList ++ rest) ρ' h' Q) : am_WP M bc bs pc ls st ρ h Q := by
  have := am_callV (bc := bc) (bs := bs) hd hp hok lk wi ws hc hlev hb hn hrest hst ct kk
  rwa [Nat.zero_add, Nat.zero_add] at this
theorem am_callVp {as : List am_V} {b : Int} {v : am_V} {ci N : Nat} {C : String} {T : u_T} (hst : st = as.reverse ++ am_R b :: rest) (hd : decode M.2.1 pc = .ok (.invokevirtual idx, 3)) (hp : pc + 3 = pc') (hok : am_ok M' n) (lk : am_T (.methodLink M.1.cls idx M'.1)) (wi : am_T (.instanceMethod M'.1)) (ws : am_T (.selects C M'.1 M'.1)) (hc : vwCl[ci]? = some (C, T, N)) (hlev : M'.2.2.2.2.1 + 1 ≤ M.2.2.2.2.1) (hn : as.length = n) (hrest : rest.length ≤ 4) (hb : am_in ρ b ci)
    (ct : am_CT M' 0 0 (am_R b :: as) ρ h (am_P v ρ h)) (kk : am_WP M bc bs pc' ls (v :: rest) ρ h Q) : am_WP M bc bs pc ls st ρ h Q := by
  refine am_callV0 hst hd hp hok lk wi ws hc hlev hn hrest hb ct (fun r ρ' h' q _ _ => ?_)
  obtain ⟨rfl, rfl, rfl⟩ := q
  exact kk
theorem am_callSg {as : List am_V} (hst : st = as.reverse ++ rest) (hd : decode M.2.1 pc = .ok (.invokestatic idx, 3)) (hp : pc + 3 = pc') (hok : am_ok M' n) (lk : am_T (.methodLink M.1.cls idx M'.1)) (wi : am_T (.static M'.1)) (hlev : M'.2.2.2.2.1 + 1 ≤ M.2.2.2.2.1) (hn : as.length = n) (hrest : rest.length ≤ 4)
    (ct : am_CT M' mc ms as ρ h Q') (kk : ∀ r ρ' h', Q' r ρ' h' → am_rng ρ' h' → ρ 0 0 ≤ ρ' 0 0 → am_WP M bc bs pc' ls (r.toList ++ rest) ρ' h' Q) : am_WP M (mc + bc) (ms + bs) pc ls st ρ h Q := am_callS hd hp hok lk wi hlev hn hrest hst ct kk
theorem am_callS0 {as : List am_V} (hst : st = as.reverse ++ rest) (hd : decode M.2.1 pc = .ok (.invokestatic idx, 3)) (hp : pc + 3 = pc') (hok : am_ok M' n) (lk : am_T (.methodLink M.1.cls idx M'.1)) (wi : am_T (.static M'.1)) (hlev : M'.2.2.2.2.1 + 1 ≤ M.2.2.2.2.1) (hn : as.length = n) (hrest : rest.length ≤ 4)
    (ct : am_CT M' 0 0 as ρ h Q') (kk : ∀ r ρ' h', Q' r ρ' h' → am_rng ρ' h' → ρ 0 0 ≤ ρ' 0 0 → am_WP M bc bs pc' ls (r.toList ++ rest) ρ' h' Q) : am_WP M bc bs pc ls st ρ h Q := by
  have := am_callS (bc := bc) (bs := bs) hd hp hok lk wi hlev hn hrest hst ct kk
  rwa [Nat.zero_add, Nat.zero_add] at this
theorem am_callSp {as : List am_V} {v : am_V} (hst : st = as.reverse ++ rest) (hd : decode M.2.1 pc = .ok (.invokestatic idx, 3)) (hp : pc + 3 = pc') (hok : am_ok M' n) (lk : am_T (.methodLink M.1.cls idx M'.1)) (wi : am_T (.static M'.1)) (hlev : M'.2.2.2.2.1 + 1 ≤ M.2.2.2.2.1) (hn : as.length = n) (hrest : rest.length ≤ 4)
    (ct : am_CT M' 0 0 as ρ h (am_P v ρ h)) (kk : am_WP M bc bs pc' ls (v :: rest) ρ h Q) : am_WP M bc bs pc ls st ρ h Q := by
  refine am_callS0 hst hd hp hok lk wi hlev hn hrest ct (fun r ρ' h' q _ _ => ?_)
  obtain ⟨rfl, rfl, rfl⟩ := q
  exact kk
/-- a case of the number on top -/
theorem am_case {a : Int} (v : Int) (k1 : a = v → am_WP M bc bs pc ls (am_I v :: st) ρ h Q) (k2 : a ≠ v → am_WP M bc bs pc ls (am_I a :: st) ρ h Q) : am_WP M bc bs pc ls (am_I a :: st) ρ h Q := by
  by_cases e : a = v
  · rw [e]; exact k1 e
  · exact k2 e
theorem am_WPmono {Q Q' : am_Q} (hw : am_WP M bc bs pc ls st ρ h Q) (hq : ∀ r ρ' h', Q r ρ' h' → Q' r ρ' h') : am_WP M bc bs pc ls st ρ h Q' := by
  intro p l e R s m args below meth c Z D cI cS A n0 ad0 Cx
  exact hw p l e R s m args below meth c Z D cI cS A n0 ad0 ⟨Cx.1, fun r ρ' h' ad H locs cells slots lc pc q => Cx.2 r ρ' h' ad H locs cells slots lc pc (hq _ _ _ q)⟩
/-- whatever the world is, it is in range -/
theorem am_WPrng (k : am_rng ρ h → am_WP M bc bs pc ls st ρ h Q) : am_WP M bc bs pc ls st ρ h Q := by
  intro p l e R s m args below meth c Z D cI cS A n0 ad0 Cx ad H locs cells slots lc rl
  exact k rl.1 p l e R s m args below meth c Z D cI cS A n0 ad0 Cx ad H locs cells slots lc rl
/-- an int on top, or in a local, is in range -/
theorem am_WPokl {i : Nat} {x : Int} (hl : ls[i]? = some (some (am_I x))) (k : am_okI x → am_WP M bc bs pc ls st ρ h Q) : am_WP M bc bs pc ls st ρ h Q := by
  intro p l e R s m args below meth c Z D cI cS A n0 ad0 Cx ad H locs cells slots lc rl os ol
  exact k (ol _ (List.mem_of_getElem? hl)) p l e R s m args below meth c Z D cI cS A n0 ad0 Cx ad H locs cells slots lc rl os ol
end AMR
theorem am_z0 {P : Prop} [Decidable P] : ((if P then (1 : Int) else 0) = 0) = ¬ P := by
  by_cases h : P <;> simp [h]
theorem am_z1 {P : Prop} : (¬ ¬ P) = P := propext Classical.not_not
theorem am_us {h : am_H} {x k v y j : Int} (e1 : y = x) (e2 : j = k) : am_u h x k v y j = v := by rw [e1, e2]; exact am_u_s _ _ _ _
/-- one more of a row of facts -/
theorem am_upto {φ : Int → Prop} {i : Int} (h : ∀ k, 0 ≤ k → k < i → φ k) (hi : φ i) : ∀ k, 0 ≤ k → k < i + 1 → φ k := fun k h0 h1 => by
  by_cases e : k = i
  · rw [e]; exact hi
  · exact h k h0 (by omega)
