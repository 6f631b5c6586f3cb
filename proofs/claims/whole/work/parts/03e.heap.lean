/-! the classes -/
theorem inX_X0 : ∀ w ∈ u_ws RX0 TX0 14, am_T w := am_inT _ [104, 106, 108, 110, 112, 114, 116, 118, 120, 122, 124, 126, 128, 130] (by decide +kernel) (by decide +kernel)
theorem inX_X1 : ∀ w ∈ u_ws RX1 TX1 3, am_T w := am_inT _ [187, 189, 191] (by decide +kernel) (by decide +kernel)
theorem inX_X2 : ∀ w ∈ u_ws RX2 TX2 4, am_T w := am_inT _ [166, 168, 170, 172] (by decide +kernel) (by decide +kernel)
theorem inX_X3 : ∀ w ∈ u_ws RX3 TX3 5, am_T w := am_inT _ [63, 65, 67, 69, 71] (by decide +kernel) (by decide +kernel)
theorem inX_X4 : ∀ w ∈ u_ws RX4 TX4 3, am_T w := am_inT _ [33, 35, 37] (by decide +kernel) (by decide +kernel)
theorem inX_X5 : ∀ w ∈ u_ws RX5 TX5 5, am_T w := am_inT _ [144, 146, 148, 150, 152] (by decide +kernel) (by decide +kernel)
theorem inX_X7 : ∀ w ∈ u_ws RX7 TX7 10, am_T w := am_inT _ [204, 206, 208, 210, 212, 214, 216, 218, 220, 222] (by decide +kernel) (by decide +kernel)
theorem inX_X8 : ∀ w ∈ u_ws RX8 TX8 32, am_T w := am_inT _ [724, 726, 728, 730, 732, 734, 736, 738, 740, 742, 744, 746, 748, 750, 752, 754, 756, 758, 760, 762, 764, 766, 768, 770, 772, 774, 776, 778, 780, 782, 784, 786] (by decide +kernel) (by decide +kernel)
def am_ty (ci : Nat) : Nat → FieldType := match ci with
  | 0 => tyX0
  | 1 => tyX1
  | 2 => tyX2
  | 3 => tyX3
  | 4 => tyX4
  | 5 => tyX5
  | 6 => tyX7
  | _ => tyX8
theorem am_tyI0 : ∀ ci, ci < 8 → ∀ k, k < am_N ci → am_isI ci k = true → am_ty ci k = .int := by decide +kernel
theorem am_tyR_0 : ∀ k, k < 14 → am_isI 0 k = false → defaultValue (am_ty 0 k) = .null ∧ ∀ a, narrow (am_ty 0 k) (.ref a) = .ref a ∧ fits (am_ty 0 k) (.ref a) = true
  | 0, _, _ => ⟨rfl, fun _ => ⟨rfl, rfl⟩⟩
  | 1, _, _ => ⟨rfl, fun _ => ⟨rfl, rfl⟩⟩
  | 2, _, _ => ⟨rfl, fun _ => ⟨rfl, rfl⟩⟩
  | 3, _, _ => ⟨rfl, fun _ => ⟨rfl, rfl⟩⟩
  | 4, _, _ => ⟨rfl, fun _ => ⟨rfl, rfl⟩⟩
  | 5, _, _ => ⟨rfl, fun _ => ⟨rfl, rfl⟩⟩
  | 6, _, h => by simp [am_isI] at h
  | 7, _, h => by simp [am_isI] at h
  | 8, _, h => by simp [am_isI] at h
  | 9, _, h => by simp [am_isI] at h
  | 10, _, h => by simp [am_isI] at h
  | 11, _, h => by simp [am_isI] at h
  | 12, _, h => by simp [am_isI] at h
  | 13, _, h => by simp [am_isI] at h
  | k + 14, h, _ => by omega
theorem am_tyR_1 : ∀ k, k < 3 → am_isI 1 k = false → defaultValue (am_ty 1 k) = .null ∧ ∀ a, narrow (am_ty 1 k) (.ref a) = .ref a ∧ fits (am_ty 1 k) (.ref a) = true
  | 0, _, h => by simp [am_isI] at h
  | 1, _, h => by simp [am_isI] at h
  | 2, _, h => by simp [am_isI] at h
  | k + 3, h, _ => by omega
theorem am_tyR_2 : ∀ k, k < 4 → am_isI 2 k = false → defaultValue (am_ty 2 k) = .null ∧ ∀ a, narrow (am_ty 2 k) (.ref a) = .ref a ∧ fits (am_ty 2 k) (.ref a) = true
  | 0, _, _ => ⟨rfl, fun _ => ⟨rfl, rfl⟩⟩
  | 1, _, _ => ⟨rfl, fun _ => ⟨rfl, rfl⟩⟩
  | 2, _, _ => ⟨rfl, fun _ => ⟨rfl, rfl⟩⟩
  | 3, _, h => by simp [am_isI] at h
  | k + 4, h, _ => by omega
theorem am_tyR_3 : ∀ k, k < 5 → am_isI 3 k = false → defaultValue (am_ty 3 k) = .null ∧ ∀ a, narrow (am_ty 3 k) (.ref a) = .ref a ∧ fits (am_ty 3 k) (.ref a) = true
  | 0, _, h => by simp [am_isI] at h
  | 1, _, h => by simp [am_isI] at h
  | 2, _, _ => ⟨rfl, fun _ => ⟨rfl, rfl⟩⟩
  | 3, _, _ => ⟨rfl, fun _ => ⟨rfl, rfl⟩⟩
  | 4, _, _ => ⟨rfl, fun _ => ⟨rfl, rfl⟩⟩
  | k + 5, h, _ => by omega
theorem am_tyR_4 : ∀ k, k < 3 → am_isI 4 k = false → defaultValue (am_ty 4 k) = .null ∧ ∀ a, narrow (am_ty 4 k) (.ref a) = .ref a ∧ fits (am_ty 4 k) (.ref a) = true
  | 0, _, h => by simp [am_isI] at h
  | 1, _, h => by simp [am_isI] at h
  | 2, _, _ => ⟨rfl, fun _ => ⟨rfl, rfl⟩⟩
  | k + 3, h, _ => by omega
theorem am_tyR_5 : ∀ k, k < 5 → am_isI 5 k = false → defaultValue (am_ty 5 k) = .null ∧ ∀ a, narrow (am_ty 5 k) (.ref a) = .ref a ∧ fits (am_ty 5 k) (.ref a) = true
  | 0, _, _ => ⟨rfl, fun _ => ⟨rfl, rfl⟩⟩
  | 1, _, _ => ⟨rfl, fun _ => ⟨rfl, rfl⟩⟩
  | 2, _, _ => ⟨rfl, fun _ => ⟨rfl, rfl⟩⟩
  | 3, _, h => by simp [am_isI] at h
  | 4, _, h => by simp [am_isI] at h
  | k + 5, h, _ => by omega
theorem am_tyR_6 : ∀ k, k < 10 → am_isI 6 k = false → defaultValue (am_ty 6 k) = .null ∧ ∀ a, narrow (am_ty 6 k) (.ref a) = .ref a ∧ fits (am_ty 6 k) (.ref a) = true
  | 0, _, _ => ⟨rfl, fun _ => ⟨rfl, rfl⟩⟩
  | 1, _, _ => ⟨rfl, fun _ => ⟨rfl, rfl⟩⟩
  | 2, _, _ => ⟨rfl, fun _ => ⟨rfl, rfl⟩⟩
  | 3, _, _ => ⟨rfl, fun _ => ⟨rfl, rfl⟩⟩
  | 4, _, _ => ⟨rfl, fun _ => ⟨rfl, rfl⟩⟩
  | 5, _, _ => ⟨rfl, fun _ => ⟨rfl, rfl⟩⟩
  | 6, _, _ => ⟨rfl, fun _ => ⟨rfl, rfl⟩⟩
  | 7, _, h => by simp [am_isI] at h
  | 8, _, h => by simp [am_isI] at h
  | 9, _, h => by simp [am_isI] at h
  | k + 10, h, _ => by omega
theorem am_tyR_7 : ∀ k, k < 32 → am_isI 7 k = false → defaultValue (am_ty 7 k) = .null ∧ ∀ a, narrow (am_ty 7 k) (.ref a) = .ref a ∧ fits (am_ty 7 k) (.ref a) = true
  | 0, _, h => by simp [am_isI] at h
  | 1, _, h => by simp [am_isI] at h
  | 2, _, h => by simp [am_isI] at h
  | 3, _, h => by simp [am_isI] at h
  | 4, _, _ => ⟨rfl, fun _ => ⟨rfl, rfl⟩⟩
  | 5, _, _ => ⟨rfl, fun _ => ⟨rfl, rfl⟩⟩
  | 6, _, h => by simp [am_isI] at h
  | 7, _, h => by simp [am_isI] at h
  | 8, _, h => by simp [am_isI] at h
  | 9, _, _ => ⟨rfl, fun _ => ⟨rfl, rfl⟩⟩
  | 10, _, _ => ⟨rfl, fun _ => ⟨rfl, rfl⟩⟩
  | 11, _, _ => ⟨rfl, fun _ => ⟨rfl, rfl⟩⟩
  | 12, _, _ => ⟨rfl, fun _ => ⟨rfl, rfl⟩⟩
  | 13, _, _ => ⟨rfl, fun _ => ⟨rfl, rfl⟩⟩
  | 14, _, _ => ⟨rfl, fun _ => ⟨rfl, rfl⟩⟩
  | 15, _, _ => ⟨rfl, fun _ => ⟨rfl, rfl⟩⟩
  | 16, _, _ => ⟨rfl, fun _ => ⟨rfl, rfl⟩⟩
  | 17, _, _ => ⟨rfl, fun _ => ⟨rfl, rfl⟩⟩
  | 18, _, h => by simp [am_isI] at h
  | 19, _, h => by simp [am_isI] at h
  | 20, _, h => by simp [am_isI] at h
  | 21, _, h => by simp [am_isI] at h
  | 22, _, _ => ⟨rfl, fun _ => ⟨rfl, rfl⟩⟩
  | 23, _, h => by simp [am_isI] at h
  | 24, _, _ => ⟨rfl, fun _ => ⟨rfl, rfl⟩⟩
  | 25, _, _ => ⟨rfl, fun _ => ⟨rfl, rfl⟩⟩
  | 26, _, _ => ⟨rfl, fun _ => ⟨rfl, rfl⟩⟩
  | 27, _, _ => ⟨rfl, fun _ => ⟨rfl, rfl⟩⟩
  | 28, _, _ => ⟨rfl, fun _ => ⟨rfl, rfl⟩⟩
  | 29, _, _ => ⟨rfl, fun _ => ⟨rfl, rfl⟩⟩
  | 30, _, _ => ⟨rfl, fun _ => ⟨rfl, rfl⟩⟩
  | 31, _, h => by simp [am_isI] at h
  | k + 32, h, _ => by omega
theorem am_tyR0 : ∀ ci, ci < 8 → ∀ k, k < am_N ci → am_isI ci k = false → defaultValue (am_ty ci k) = .null ∧ ∀ a, narrow (am_ty ci k) (.ref a) = .ref a ∧ fits (am_ty ci k) (.ref a) = true := by
  intro ci hci k hk hi
  match ci, hci with
  | 0, _ => exact am_tyR_0 k hk hi
  | 1, _ => exact am_tyR_1 k hk hi
  | 2, _ => exact am_tyR_2 k hk hi
  | 3, _ => exact am_tyR_3 k hk hi
  | 4, _ => exact am_tyR_4 k hk hi
  | 5, _ => exact am_tyR_5 k hk hi
  | 6, _ => exact am_tyR_6 k hk hi
  | 7, _ => exact am_tyR_7 k hk hi
/-- what the tables say of a class -/
theorem am_cls {ci : Nat} {C : String} {T : u_T} {N : Nat} (h : vwCl[ci]? = some (C, T, N)) : (∀ w ∈ u_ws C T N, w ∈ am_G) ∧ (∀ k, k < N → parseFieldDescriptor (T k).2.2.1 = some (am_ty ci k)) ∧ (∀ a, a < N → ∀ b, b < N → a ≠ b → (T a).2.1 ≠ (T b).2.1) ∧ am_N ci = N ∧ ci < 8 := by
  match ci, h with
  | 0, h => cases h; exact ⟨fun w hw => am_G_iff.mpr (inX_X0 w hw), tyX0_ok, nmX0, rfl, by decide⟩
  | 1, h => cases h; exact ⟨fun w hw => am_G_iff.mpr (inX_X1 w hw), tyX1_ok, nmX1, rfl, by decide⟩
  | 2, h => cases h; exact ⟨fun w hw => am_G_iff.mpr (inX_X2 w hw), tyX2_ok, nmX2, rfl, by decide⟩
  | 3, h => cases h; exact ⟨fun w hw => am_G_iff.mpr (inX_X3 w hw), tyX3_ok, nmX3, rfl, by decide⟩
  | 4, h => cases h; exact ⟨fun w hw => am_G_iff.mpr (inX_X4 w hw), tyX4_ok, nmX4, rfl, by decide⟩
  | 5, h => cases h; exact ⟨fun w hw => am_G_iff.mpr (inX_X5 w hw), tyX5_ok, nmX5, rfl, by decide⟩
  | 6, h => cases h; exact ⟨fun w hw => am_G_iff.mpr (inX_X7 w hw), tyX7_ok, nmX7, rfl, by decide⟩
  | 7, h => cases h; exact ⟨fun w hw => am_G_iff.mpr (inX_X8 w hw), tyX8_ok, nmX8, rfl, by decide⟩
  | ci + 8, h => simp [vwCl] at h
theorem am_hts {args : Array Value} {s : State} (h : ∀ w, am_T w → w.before args s = true) : ∀ w ∈ am_G, w.before args s = true := fun w hw => h w (am_G_iff.mp hw)
def am_fl (own : String) (idx ci k : Nat) : Prop := ∃ (C : String) (T : u_T) (N : Nat), vwCl[ci]? = some (C, T, N) ∧ k < N ∧ am_T (.fieldLink own idx (T k).1 (T k).2.1 (T k).2.2.1)
/-- a cell that is there, of a kind -/
def am_in (ρ : am_H) (x : Int) (ci : Nat) : Prop := 0 < x ∧ x < ρ 0 0 ∧ am_K x = ci
theorem am_E_obj {cI cS : ClassId} {ad : Int → Nat} {ρ h : am_H} {x : Int} {ci : Nat} (hk : am_K x = ci) (h8 : ci < 8) : am_E cI cS ad ρ h x = .inr (ci, (List.range (am_N ci)).map (am_fv ad ρ h ci x)) := by
  subst hk
  unfold am_E
  rw [if_neg (by omega), if_neg (by omega)]
theorem am_E_arr {cI cS : ClassId} {ad : Int → Nat} {ρ h : am_H} {x : Int} (hk : am_K x = 8) : am_E cI cS ad ρ h x = .inl (cI, ((ρ x (-1)).toNat, .inl (fun j => Int32.ofInt (h x j)))) := by
  unfold am_E
  rw [if_pos hk]
theorem am_E_shs {cI cS : ClassId} {ad : Int → Nat} {ρ h : am_H} {x : Int} (hk : am_K x = 9) : am_E cI cS ad ρ h x = .inl (cS, ((ρ x (-1)).toNat, .inr (.inr (.inr (.inr (fun j => if ρ x j = 0 then none else some (ad (ρ x j)))))))) := by
  unfold am_E
  rw [if_neg (by omega), if_pos hk]
theorem am_rng_u {ρ h : am_H} {x k v : Int} (hr : am_rng ρ h) (hv : am_okI v) : am_rng ρ (am_u h x k v) := by
  refine ⟨hr.1, fun y j => ?_, hr.2.2⟩
  unfold am_u
  split
  · exact hv
  · exact hr.2.1 y j
theorem am_rng_ur {ρ h : am_H} {x k v : Int} (hr : am_rng ρ h) (hx : 0 < x) (hk : 0 ≤ k) (h0 : 0 ≤ v) (h1 : v < ρ 0 0) : am_rng (am_u ρ x k v) h := by
  have e : am_u ρ x k v 0 0 = ρ 0 0 := am_u_n (by omega)
  refine ⟨by rw [e]; exact hr.1, hr.2.1, fun y => ?_, fun y j hy hj => ?_⟩
  · rw [am_u_n (by omega)]; exact hr.2.2.1 y
  · rw [e]
    unfold am_u
    split
    · exact ⟨h0, h1⟩
    · exact hr.2.2.2 y j hy hj
theorem am_ws_u {cI cS : ClassId} {ad : Int → Nat} {ρ h : am_H} {x k v : Int} (hr : am_rng ρ h) (hx : 0 < x) : am_ws cI cS ad ρ (am_u h x k v) = (am_ws cI cS ad ρ h).set (x.toNat - 1) (ad x, am_E cI cS ad ρ (am_u h x k v) x) :=
  am_ws_set hx rfl (fun y hy hyx => am_E_ext (n := ρ 0 0) hy (fun j hj => (hr.2.2.2 y j hy hj).2) (fun _ _ => rfl) (fun _ => rfl) (fun j _ => am_u_n (by omega)))
theorem am_ws_ur {cI cS : ClassId} {ad : Int → Nat} {ρ h : am_H} {x k v : Int} (hr : am_rng ρ h) (hx : 0 < x) : am_ws cI cS ad (am_u ρ x k v) h = (am_ws cI cS ad ρ h).set (x.toNat - 1) (ad x, am_E cI cS ad (am_u ρ x k v) h x) :=
  am_ws_set hx (am_u_n (by omega)) (fun y hy hyx => am_E_ext (n := ρ 0 0) hy (fun j hj => (hr.2.2.2 y j hy hj).2) (fun _ _ => rfl) (fun j => am_u_n (by omega)) (fun j _ => rfl))
section AMR
variable {M : am_M} {bc bs pc pc' tgt : Nat} {ls ls' : List (Option am_V)} {st st' : List am_V} {ρ h : am_H} {Q : am_Q}
theorem am_getI {x : Int} {idx ci k : Nat} (hd : decode M.2.1 pc = .ok (.getfield idx, 3)) (hp : pc + 3 = pc') (lk : am_fl M.1.cls idx ci k) (hx : am_in ρ x ci) (hI : am_isI ci k = true) (kk : am_WP M bc bs pc' ls (am_I (h x k) :: st) ρ h Q) : am_WP M bc bs pc ls (am_R x :: st) ρ h Q := by
  subst hp
  obtain ⟨C, T, N, hc, hk, hw⟩ := lk
  obtain ⟨hin, hty, hnm, hN, h8⟩ := am_cls hc
  intro p l e R s m args below meth c Z D cI cS A n0 ad0 Cx ad H locs cells slots lc rl os ol hl hcs hss
  have he := am_ws_get (cI := cI) (cS := cS) (ad := ad) (h := h) hx.1 hx.2.1
  rw [am_E_obj hx.2.2 h8, hN] at he
  refine va_get (fs := (List.range N).map (am_fv ad ρ h ci x)) Cx.1.1.1 Cx.1.1.2.1 (am_hts Cx.1.2.1) hin Cx.1.1.2.2.2 Cx.1.2.2.2.1 rl.2.2.2.1 _ he hc k hk (Cx.1.2.1 _ hw) (fun _ z => z) (v := .int (Int32.ofInt (h x k))) ?_ hd (kk p l e R s m args below meth c Z D cI cS A n0 ad0 Cx ad H locs cells slots lc rl (am_okI1 (rl.1.2.1 x k) (am_okt os)) ol hl hcs hss)
  rw [List.getElem?_map, List.getElem?_range hk]
  simp [am_fv, hI]
theorem am_getR {x y : Int} {idx ci k : Nat} (hd : decode M.2.1 pc = .ok (.getfield idx, 3)) (hp : pc + 3 = pc') (lk : am_fl M.1.cls idx ci k) (hx : am_in ρ x ci) (hI : am_isI ci k = false) (hy : ρ x k = y) (hy0 : 0 < y) (kk : am_WP M bc bs pc' ls (am_R y :: st) ρ h Q) : am_WP M bc bs pc ls (am_R x :: st) ρ h Q := by
  subst hp
  obtain ⟨C, T, N, hc, hk, hw⟩ := lk
  obtain ⟨hin, hty, hnm, hN, h8⟩ := am_cls hc
  intro p l e R s m args below meth c Z D cI cS A n0 ad0 Cx ad H locs cells slots lc rl os ol hl hcs hss
  have he := am_ws_get (cI := cI) (cS := cS) (ad := ad) (h := h) hx.1 hx.2.1
  rw [am_E_obj hx.2.2 h8, hN] at he
  have hyn : y < ρ 0 0 := by rw [← hy]; exact (rl.1.2.2.2 x k hx.1 (by omega)).2
  refine va_get (fs := (List.range N).map (am_fv ad ρ h ci x)) Cx.1.1.1 Cx.1.1.2.1 (am_hts Cx.1.2.1) hin Cx.1.1.2.2.2 Cx.1.2.2.2.1 rl.2.2.2.1 _ he hc k hk (Cx.1.2.1 _ hw) (fun _ z => z) (v := .ref (ad y)) ?_ hd (kk p l e R s m args below meth c Z D cI cS A n0 ad0 Cx ad H locs cells slots lc rl (am_okR1 hyn (am_okt os)) ol hl hcs hss)
  rw [List.getElem?_map, List.getElem?_range hk]
  have : ¬ y = 0 := by omega
  simp [am_fv, hI, hy, this]
theorem am_putI {x v : Int} {idx ci k : Nat} (hd : decode M.2.1 pc = .ok (.putfield idx, 3)) (hp : pc + 3 = pc') (lk : am_fl M.1.cls idx ci k) (hx : am_in ρ x ci) (hI : am_isI ci k = true) (kk : am_WP M bc bs pc' ls st ρ (am_u h x k v) Q) (hfin : ∀ C T N, vwCl[ci]? = some (C, T, N) → (T k).2.2.2 = false) : am_WP M bc bs pc ls (am_I v :: am_R x :: st) ρ h Q := by
  subst hp
  obtain ⟨C, T, N, hc, hk, hw⟩ := lk
  obtain ⟨hin, hty, hnm, hN, h8⟩ := am_cls hc
  intro p l e R s m args below meth c Z D cI cS A n0 ad0 Cx ad H locs cells slots lc rl os ol hl hcs hss
  have he := am_ws_get (cI := cI) (cS := cS) (ad := ad) (h := h) hx.1 hx.2.1
  rw [am_E_obj hx.2.2 h8, hN] at he
  have hti : am_ty ci k = .int := am_tyI0 ci h8 k (by omega) hI
  have hE : am_ws cI cS ad ρ (am_u h x k v) = (am_ws cI cS ad ρ h).set (x.toNat - 1) (ad x, .inr (ci, ((List.range N).map (am_fv ad ρ h ci x)).set k (.int (Int32.ofInt v)))) := by
    rw [am_ws_u rl.1 hx.1, am_E_obj hx.2.2 h8, hN]
    congr 4
    refine am_map_set _ _ _ _ _ ?_ (fun j hj => ?_)
    · simp [am_fv, hI, am_u]
    · unfold am_fv
      rw [am_u_n (by omega)]
  refine va_put (fs := (List.range N).map (am_fv ad ρ h ci x)) (v := .int (Int32.ofInt v)) (ty := .int) Cx.1.1.1 Cx.1.1.2.1 (am_hts Cx.1.2.1) hin (am_ty ci) hty hnm Cx.1.1.2.2.2 Cx.1.2.2.2.1 rl.2.2.2.1 rl.2.2.2.2.1 rl.2.2.2.2.2 _ he hc k hk (Cx.1.2.1 _ hw) (fun _ z => z) (hfin C T N hc) (by rw [hty k hk, hti]) rfl rfl (by simpa using hk) hd (fun H1 locs1 hP1 hD1 hS1 => ?_)
  exact kk p l e R s m args below meth c Z D cI cS A n0 ad0 Cx ad H1 locs1 cells slots lc ⟨am_rng_u rl.1 (am_okh os), rl.2.1, rl.2.2.1, by rw [hE]; exact hP1, by rw [hE]; exact hD1, hS1⟩ (am_okt (am_okt os)) ol hl hcs hss
theorem am_hE_R {cI cS : ClassId} {ad : Int → Nat} {x v : Int} {ci k N : Nat} (hr : am_rng ρ h) (hx : am_in ρ x ci) (h8 : ci < 8) (hN : am_N ci = N) (hI : am_isI ci k = false) (hv0 : 0 < v) : am_ws cI cS ad (am_u ρ x k v) h = (am_ws cI cS ad ρ h).set (x.toNat - 1) (ad x, .inr (ci, ((List.range N).map (am_fv ad ρ h ci x)).set k (.ref (ad v)))) := by
  rw [am_ws_ur hr hx.1, am_E_obj hx.2.2 h8, hN]
  congr 4
  have : ¬ v = 0 := by omega
  refine am_map_set _ _ _ _ _ ?_ (fun j hj => ?_)
  · simp [am_fv, hI, am_u, this]
  · unfold am_fv
    rw [am_u_n (by omega)]
theorem am_putR {x v : Int} {idx ci k : Nat} (hd : decode M.2.1 pc = .ok (.putfield idx, 3)) (hp : pc + 3 = pc') (lk : am_fl M.1.cls idx ci k) (hx : am_in ρ x ci) (hI : am_isI ci k = false) (hv0 : 0 < v) (kk : am_WP M bc bs pc' ls st (am_u ρ x k v) h Q) (hfin : ∀ C T N, vwCl[ci]? = some (C, T, N) → (T k).2.2.2 = false) : am_WP M bc bs pc ls (am_R v :: am_R x :: st) ρ h Q := by
  subst hp
  obtain ⟨C, T, N, hc, hk, hw⟩ := lk
  obtain ⟨hin, hty, hnm, hN, h8⟩ := am_cls hc
  intro p l e R s m args below meth c Z D cI cS A n0 ad0 Cx ad H locs cells slots lc rl os ol hl hcs hss
  have he := am_ws_get (cI := cI) (cS := cS) (ad := ad) (h := h) hx.1 hx.2.1
  rw [am_E_obj hx.2.2 h8, hN] at he
  have hti := (am_tyR0 ci h8 k (by omega) hI).2 (ad v)
  have hE := am_hE_R (cI := cI) (cS := cS) (ad := ad) rl.1 hx h8 hN hI hv0
  have en : am_u ρ x k v 0 0 = ρ 0 0 := am_u_n (by have := hx.1; omega)
  refine va_put (fs := (List.range N).map (am_fv ad ρ h ci x)) (v := .ref (ad v)) (ty := am_ty ci k) Cx.1.1.1 Cx.1.1.2.1 (am_hts Cx.1.2.1) hin (am_ty ci) hty hnm Cx.1.1.2.2.2 Cx.1.2.2.2.1 rl.2.2.2.1 rl.2.2.2.2.1 rl.2.2.2.2.2 _ he hc k hk (Cx.1.2.1 _ hw) (fun _ z => z) (hfin C T N hc) (hty k hk) hti.1 hti.2 (by simpa using hk) hd (fun H1 locs1 hP1 hD1 hS1 => ?_)
  exact kk p l e R s m args below meth c Z D cI cS A n0 ad0 Cx ad H1 locs1 cells slots lc ⟨am_rng_ur rl.1 hx.1 (by omega) (by omega) (am_okh os), by rw [en]; exact rl.2.1, rl.2.2.1, by rw [hE]; exact hP1, by rw [hE]; exact hD1, hS1⟩ (by rw [en]; exact am_okt (am_okt os)) (by rw [en]; exact ol) hl hcs hss
theorem am_putF {x v : Int} {idx ci k : Nat} (hd : decode M.2.1 pc = .ok (.putfield idx, 3)) (hp : pc + 3 = pc') (lk : am_fl M.1.cls idx ci k) (hx : am_in ρ x ci) (hI : am_isI ci k = false) (hv0 : 0 < v) (kk : am_WP M bc bs pc' ls st (am_u ρ x k v) h Q) (hfin : ∀ C T N, vwCl[ci]? = some (C, T, N) → (T k).2.2.2 = true ∧ (T k).1 = M.1.cls) (hin2 : M.1.name = "<init>") : am_WP M bc bs pc ls (am_R v :: am_R x :: st) ρ h Q := by
  subst hp
  obtain ⟨C, T, N, hc, hk, hw⟩ := lk
  obtain ⟨hin, hty, hnm, hN, h8⟩ := am_cls hc
  intro p l e R s m args below meth c Z D cI cS A n0 ad0 Cx ad H locs cells slots lc rl os ol hl hcs hss
  have he := am_ws_get (cI := cI) (cS := cS) (ad := ad) (h := h) hx.1 hx.2.1
  rw [am_E_obj hx.2.2 h8, hN] at he
  have hti := (am_tyR0 ci h8 k (by omega) hI).2 (ad v)
  have hE := am_hE_R (cI := cI) (cS := cS) (ad := ad) rl.1 hx h8 hN hI hv0
  have en : am_u ρ x k v 0 0 = ρ 0 0 := am_u_n (by have := hx.1; omega)
  refine va_putF (fs := (List.range N).map (am_fv ad ρ h ci x)) (v := .ref (ad v)) (ty := am_ty ci k) Cx.1.1.1 Cx.1.1.2.1 (am_hts Cx.1.2.1) hin (am_ty ci) hty hnm Cx.1.1.2.2.2 Cx.1.2.2.2.1 rl.2.2.2.1 rl.2.2.2.2.1 rl.2.2.2.2.2 _ he hc k hk (Cx.1.2.1 _ hw) (fun _ z => z) (hfin C T N hc).1 (Cx.1.2.2.1 hin2) (hfin C T N hc).2 (hty k hk) hti.1 hti.2 (by simpa using hk) hd (fun H1 locs1 hP1 hD1 hS1 => ?_)
  exact kk p l e R s m args below meth c Z D cI cS A n0 ad0 Cx ad H1 locs1 cells slots lc ⟨am_rng_ur rl.1 hx.1 (by omega) (by omega) (am_okh os), by rw [en]; exact rl.2.1, rl.2.2.1, by rw [hE]; exact hP1, by rw [hE]; exact hD1, hS1⟩ (by rw [en]; exact am_okt (am_okt os)) (by rw [en]; exact ol) hl hcs hss
end AMR
