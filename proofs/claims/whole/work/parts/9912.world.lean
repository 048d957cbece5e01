/-! ===== the world: the cells of the two objects, at addresses adr, with contents ri (ints), rl (longs) ===== -/
def dh_tys (ta : Nat → ClassId) : List (ClassId × FieldType) := [(ta 1, .int), (ta 2, .long), (ta 3, .byte), (ta 4, .boolean), (ta 5, .object "DoubleHeap$Law"), (ta 6, .object "DoubleHeap$Tale"), (ta 7, .array .int)]
def dh_e (adr : Nat → Nat) (ta : Nat → ClassId) (ri : Nat → Nat → Int32) (rl : Nat → Nat → Int64) (k : Nat) (s : Nat × Nat × Nat × Nat) : va_E := match s with
  | (0, ci, _, _) => .inr (ci, (dh_fk ci).mapIdx (fun j f => if f.1 = 3 then .ref (adr (k + f.2)) else .int (ri k j)))
  | (1, n, _, _) => .inl (ta 1, n, .inl (ri k))
  | (2, n, _, _) => .inl (ta 2, n, .inr (.inl (rl k)))
  | (3, n, _, _) => .inl (ta 3, n, .inl (ri k))
  | (4, n, _, _) => .inl (ta 4, n, .inl (ri k))
  | (t, n, b, c) => .inl (ta t, n, .inr (.inr (.inr (.inr (fun j => if j < n then some (adr (k + b + j * c)) else none)))))
def dh_ws (adr : Nat → Nat) (ta : Nat → ClassId) (ri : Nat → Nat → Int32) (rl : Nat → Nat → Int64) : va_W := dh_shl.mapIdx (fun k s => (adr k, dh_e adr ta ri rl k s))
def dh_ab (ri : Nat → Nat → Int32) (rl : Nat → Nat → Int64) : dh_AH := (fun p k => (ri p k).toInt, fun p k => (rl p k).toBitVec)
section DHW
variable {adr : Nat → Nat} {ta : Nat → ClassId} {ri ri' : Nat → Nat → Int32} {rl rl' : Nat → Nat → Int64} {k : Nat} {s : Nat × Nat × Nat × Nat}
theorem dh_ws_at (h : dh_sh k = some s) : (dh_ws adr ta ri rl)[k]? = some (adr k, dh_e adr ta ri rl k s) := by
  unfold dh_sh at h
  unfold dh_ws
  rw [List.getElem?_mapIdx, h]
  rfl
theorem dh_ws_no (h : dh_sh k = none) : (dh_ws adr ta ri rl)[k]? = none := by
  unfold dh_sh at h
  unfold dh_ws
  rw [List.getElem?_mapIdx, h]
  rfl
theorem dh_e_congr (h1 : ri' k = ri k) (h2 : rl' k = rl k) : dh_e adr ta ri' rl' k s = dh_e adr ta ri rl k s := by
  unfold dh_e
  rw [h1, h2]
/-- contents that differ at one place only: one cell is another -/
theorem dh_ws_set {p : Nat} (hs : dh_sh p = some s) (h1 : ∀ q, q ≠ p → ri' q = ri q) (h2 : ∀ q, q ≠ p → rl' q = rl q) {x : va_E} (hx : x = dh_e adr ta ri' rl' p s) : (dh_ws adr ta ri rl).set p (adr p, x) = dh_ws adr ta ri' rl' := by
  subst hx
  apply List.ext_getElem?
  intro j
  by_cases e : j = p
  · subst e
    rw [dh_ws_at hs]
    have hl : j < (dh_ws adr ta ri rl).length := by
      have := dh_ws_at (adr := adr) (ta := ta) (ri := ri) (rl := rl) hs
      exact (List.getElem?_eq_some_iff.mp this).1
    rw [List.getElem?_set_self hl]
  · rw [List.getElem?_set_ne (fun q => e q.symm)]
    cases hj : dh_sh j with
    | none => rw [dh_ws_no hj, dh_ws_no hj]
    | some s' => rw [dh_ws_at hj, dh_ws_at hj, dh_e_congr (h1 j e) (h2 j e)]
theorem dh_D_any {A : Nat → Prop} (h : va_D A (dh_ws adr ta ri rl)) : va_D A (dh_ws adr ta ri' rl') := by
  have key : ∀ (i : Nat) (q : Nat × va_E), (dh_ws adr ta ri' rl')[i]? = some q → ∃ x, (dh_ws adr ta ri rl)[i]? = some (q.1, x) := by
    intro i q hq
    cases hi : dh_sh i with
    | none => rw [dh_ws_no hi] at hq; cases hq
    | some s' =>
      rw [dh_ws_at hi] at hq
      cases hq
      exact ⟨_, dh_ws_at hi⟩
  refine ⟨fun i j p q hp hq e => ?_, fun i q hq => ?_⟩
  · obtain ⟨x, hx⟩ := key i p hp
    obtain ⟨y, hy⟩ := key j q hq
    exact h.1 i j _ _ hx hy e
  · obtain ⟨x, hx⟩ := key i q hq
    exact h.2 i (q.1, x) hx
theorem dh_A_any {sz q : Nat} (h : va_A (dh_ws adr ta ri' rl') sz q) : va_A (dh_ws adr ta ri rl) sz q := by
  rcases h with ⟨i, x, hx⟩ | h
  · cases hi : dh_sh i with
    | none => rw [dh_ws_no hi] at hx; cases hx
    | some s' =>
      rw [dh_ws_at hi] at hx
      cases hx
      exact Or.inl ⟨i, _, dh_ws_at hi⟩
  · exact Or.inr h
def dh_ru (ri : Nat → Nat → Int32) (p k : Nat) (x : Int32) : Nat → Nat → Int32 := fun p' k' => if p' = p ∧ k' = k then x else ri p' k'
def dh_rU (rl : Nat → Nat → Int64) (p k : Nat) (x : Int64) : Nat → Nat → Int64 := fun p' k' => if p' = p ∧ k' = k then x else rl p' k'
def dh_ra (ri : Nat → Nat → Int32) (p : Nat) (f : Nat → Int32) : Nat → Nat → Int32 := fun p' => if p' = p then f else ri p'
theorem dh_ru_ne {p q : Nat} {x : Int32} (h : q ≠ p) : dh_ru ri p k x q = ri q := by
  funext j
  simp [dh_ru, h]
theorem dh_rU_ne {p q : Nat} {x : Int64} (h : q ≠ p) : dh_rU rl p k x q = rl q := by
  funext j
  simp [dh_rU, h]
theorem dh_ra_ne {p q : Nat} {f : Nat → Int32} (h : q ≠ p) : dh_ra ri p f q = ri q := by
  simp [dh_ra, h]
theorem dh_ru_upd {p : Nat} {x : Int32} : dh_ru ri p k x p = upd (ri p) k x := by
  funext j
  simp [dh_ru, upd]
theorem dh_rU_upd {p : Nat} {x : Int64} : dh_rU rl p k x p = vp_updL (rl p) k x := by
  funext j
  simp [dh_rU, vp_updL]
theorem dh_ra_at {p : Nat} {f : Nat → Int32} : dh_ra ri p f p = f := by simp [dh_ra]
theorem dh_ab_ui {p : Nat} {x : Int32} : dh_ab (dh_ru ri p k x) rl = dh_ui (dh_ab ri rl) p k x.toInt := by
  unfold dh_ab dh_ui
  refine Prod.ext ?_ rfl
  funext a b
  show (if a = p ∧ b = k then x else ri a b).toInt = if a = p ∧ b = k then x.toInt else (ri a b).toInt
  split <;> rfl
theorem dh_ab_ul {p : Nat} {x : Int64} : dh_ab ri (dh_rU rl p k x) = dh_ul (dh_ab ri rl) p k x.toBitVec := by
  unfold dh_ab dh_ul
  refine Prod.ext rfl ?_
  funext a b
  show (if a = p ∧ b = k then x else rl a b).toBitVec = if a = p ∧ b = k then x.toBitVec else (rl a b).toBitVec
  split <;> rfl
theorem dh_ab_ua {p : Nat} {f : Nat → Int32} : dh_ab (dh_ra ri p f) rl = dh_ua (dh_ab ri rl) p (fun j => (f j).toInt) := by
  unfold dh_ab dh_ua
  refine Prod.ext ?_ rfl
  funext a b
  show (dh_ra ri p f a b).toInt = _
  unfold dh_ra
  by_cases h : a = p <;> simp [h]
theorem dh_fs_set {p ci : Nat} {x : Int32} {f : Nat × Nat} (hk : (dh_fk ci)[k]? = some f) (hf : f.1 ≠ 3) : ((dh_fk ci).mapIdx (fun j f => if f.1 = 3 then Value.ref (adr (p + f.2)) else .int (ri p j))).set k (.int x) = (dh_fk ci).mapIdx (fun j f => if f.1 = 3 then Value.ref (adr (p + f.2)) else .int (dh_ru ri p k x p j)) := by
  apply List.ext_getElem?
  intro j
  by_cases e : j = k
  · subst e
    have hl : j < ((dh_fk ci).mapIdx (fun j f => if f.1 = 3 then Value.ref (adr (p + f.2)) else .int (ri p j))).length := by
      rw [List.length_mapIdx]
      exact (List.getElem?_eq_some_iff.mp hk).1
    rw [List.getElem?_set_self hl, List.getElem?_mapIdx, hk]
    simp [hf, dh_ru]
  · rw [List.getElem?_set_ne (fun q => e q.symm), List.getElem?_mapIdx, List.getElem?_mapIdx]
    simp [dh_ru, e]
theorem dh_vw {ci : Nat} (h : ci < 12) : vwCl[ci]? = some (vwCl.getD ci (RX0, TX0, 2)) := by
  rw [List.getD_eq_getElem?_getD, List.getElem?_eq_getElem (by exact h)]
  rfl
end DHW
/-- a class's words, its fields' names and types, by number -/
def dh_tyl : List (Nat → FieldType) := [tyX0, tyX1, tyX2, tyX3, tyX4, tyX5, tyX6, tyX7, tyX8, tyX9, tyX10, tyX11]
theorem dh_ucl {ci : Nat} (h : ci < 12) : (∀ w ∈ u_ws (vwCl.getD ci (RX0, TX0, 2)).1 (vwCl.getD ci (RX0, TX0, 2)).2.1 (vwCl.getD ci (RX0, TX0, 2)).2.2, w ∈ dh_B) ∧ (∀ k, k < (vwCl.getD ci (RX0, TX0, 2)).2.2 → parseFieldDescriptor ((vwCl.getD ci (RX0, TX0, 2)).2.1 k).2.2.1 = some (dh_tyl.getD ci tyX0 k)) ∧ ∀ a, a < (vwCl.getD ci (RX0, TX0, 2)).2.2 → ∀ b, b < (vwCl.getD ci (RX0, TX0, 2)).2.2 → a ≠ b → ((vwCl.getD ci (RX0, TX0, 2)).2.1 a).2.1 ≠ ((vwCl.getD ci (RX0, TX0, 2)).2.1 b).2.1 := by
  match ci, h with
  | 0, _ => exact ⟨dh_u0, tyX0_ok, nmX0⟩
  | 1, _ => exact ⟨dh_u1, tyX1_ok, nmX1⟩
  | 2, _ => exact ⟨dh_u2, tyX2_ok, nmX2⟩
  | 3, _ => exact ⟨dh_u3, tyX3_ok, nmX3⟩
  | 4, _ => exact ⟨dh_u4, tyX4_ok, nmX4⟩
  | 5, _ => exact ⟨dh_u5, tyX5_ok, nmX5⟩
  | 6, _ => exact ⟨dh_u6, tyX6_ok, nmX6⟩
  | 7, _ => exact ⟨dh_u7, tyX7_ok, nmX7⟩
  | 8, _ => exact ⟨dh_u8, tyX8_ok, nmX8⟩
  | 9, _ => exact ⟨dh_u9, tyX9_ok, nmX9⟩
  | 10, _ => exact ⟨dh_u10, tyX10_ok, nmX10⟩
  | 11, _ => exact ⟨dh_u11, tyX11_ok, nmX11⟩
