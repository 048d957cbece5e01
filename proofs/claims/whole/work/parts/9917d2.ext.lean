/-! ===== both worlds together are the places' world ===== -/
def dh_clo (n k : Nat) (s : Nat × Nat × Nat × Nat) : Bool := match s with
  | (0, ci, _, _) => (dh_fk ci).all (fun f => decide (k + f.2 < n))
  | (1, _, _, _) => true
  | (2, _, _, _) => true
  | (3, _, _, _) => true
  | (4, _, _, _) => true
  | (_, m, b, c) => (List.range m).all (fun j => decide (k + b + j * c < n))
theorem dh_e_ext {adr adr' : Nat → Nat} {ta : Nat → ClassId} {ri ri' : Nat → Nat → Int32} {rl rl' : Nat → Nat → Int64} {n o k : Nat} {s : Nat × Nat × Nat × Nat} (ha : ∀ j, j < n → adr (o + j) = adr' j) (hi : ri (o + k) = ri' k) (hl : rl (o + k) = rl' k) (hc : dh_clo n k s = true) : dh_e adr ta ri rl (o + k) s = dh_e adr' ta ri' rl' k s := by
  obtain ⟨t, m, b, c⟩ := s
  match t, hc with
  | 0, hc =>
    show Sum.inr (m, _) = Sum.inr (m, _)
    congr 2
    apply List.ext_getElem?
    intro j
    rw [List.getElem?_mapIdx, List.getElem?_mapIdx]
    cases hj : (dh_fk m)[j]? with
    | none => rfl
    | some f =>
      have h1 := List.all_eq_true.mp hc f (List.mem_of_getElem? hj)
      simp only [decide_eq_true_eq] at h1
      simp only [Option.map_some, hi]
      rw [show o + k + f.2 = o + (k + f.2) by omega, ha _ h1]
  | 1, _ => show Sum.inl (ta 1, m, _) = Sum.inl (ta 1, m, _); rw [hi]
  | 2, _ => show Sum.inl (ta 2, m, _) = Sum.inl (ta 2, m, _); rw [hl]
  | 3, _ => show Sum.inl (ta 3, m, _) = Sum.inl (ta 3, m, _); rw [hi]
  | 4, _ => show Sum.inl (ta 4, m, _) = Sum.inl (ta 4, m, _); rw [hi]
  | t + 5, hc =>
    have e : (fun j => if j < m then some (adr (o + k + b + j * c)) else none) = (fun j => if j < m then some (adr' (k + b + j * c)) else none) := by
      funext j
      by_cases q : j < m
      · have h1 := List.all_eq_true.mp hc j (List.mem_range.mpr q)
        simp only [decide_eq_true_eq] at h1
        rw [if_pos q, if_pos q, show o + k + b + j * c = o + (k + b + j * c) by omega, ha _ h1]
      · rw [if_neg q, if_neg q]
    show Sum.inl (ta (t + 5), m, _) = Sum.inl (ta (t + 5), m, _)
    rw [e]
theorem dh_sgG_get {α β : Type} {f : Nat → α → β} : ∀ {l : List α} {o k : Nat}, (dh_sgG f o l)[k]? = (l[k]?).map (f (o + k))
  | [], o, k => by simp [dh_sgG]
  | a :: l, o, 0 => by simp [dh_sgG]
  | a :: l, o, k + 1 => by
    show (dh_sgG f (o + 1) l)[k]? = _
    rw [dh_sgG_get, List.getElem?_cons_succ, show o + 1 + k = o + (k + 1) by omega]
def dh_clos (n : Nat) : Nat → List (Nat × Nat × Nat × Nat) → Bool
  | _, [] => true
  | k, s :: t => dh_clo n k s && dh_clos n (k + 1) t
theorem dh_clos_at {n : Nat} : ∀ {l : List (Nat × Nat × Nat × Nat)} {o k : Nat} {s : Nat × Nat × Nat × Nat}, dh_clos n o l = true → l[k]? = some s → dh_clo n (o + k) s = true
  | [], _, _, _, _, h => by simp at h
  | a :: l, o, 0, s, hc, h => by
    simp only [dh_clos, Bool.and_eq_true] at hc
    simp only [List.getElem?_cons_zero, Option.some.injEq] at h
    subst h
    exact hc.1
  | a :: l, o, k + 1, s, hc, h => by
    simp only [dh_clos, Bool.and_eq_true] at hc
    rw [List.getElem?_cons_succ] at h
    have := dh_clos_at hc.2 h
    rw [show o + (k + 1) = o + 1 + k by omega]
    exact this
/-- the cells of places o, o + 1 .. at the addresses adr -/
def dh_so (adr : Nat → Nat) (ta : Nat → ClassId) (ri : Nat → Nat → Int32) (o : Nat) (shp : List (Nat × Nat × Nat × Nat)) : va_W := dh_sgG (fun k s => (adr k, dh_e adr ta ri (fun _ _ => 0) k s)) o shp
theorem dh_sgG_app {α β : Type} {f : Nat → α → β} : ∀ {s1 s2 : List α} {o : Nat}, dh_sgG f o (s1 ++ s2) = dh_sgG f o s1 ++ dh_sgG f (o + s1.length) s2
  | [], s2, o => rfl
  | a :: s1, s2, o => by
    show f o a :: dh_sgG f (o + 1) (s1 ++ s2) = f o a :: (dh_sgG f (o + 1) s1 ++ dh_sgG f (o + (s1.length + 1)) s2)
    rw [dh_sgG_app, show o + 1 + s1.length = o + (s1.length + 1) by omega]
theorem dh_so_sg {adr : Nat → Nat} {ta : Nat → ClassId} {ri : Nat → Nat → Int32} {o n : Nat} {shp : List (Nat × Nat × Nat × Nat)} {as : List Nat} (hn : shp.length = n) (ha : ∀ j, j < n → adr (o + j) = as.getD j 0) (hi : ∀ k, ri (o + k) = dh_z k) (hc : dh_clos n 0 shp = true) : dh_so adr ta ri o shp = dh_sg ta shp dh_z as := by
  apply List.ext_getElem?
  intro k
  unfold dh_so dh_sg
  rw [dh_sgG_get, dh_sgG_get]
  cases hs : shp[k]? with
  | none => rfl
  | some s =>
    have hk : k < n := by
      have := (List.getElem?_eq_some_iff.mp hs).1
      omega
    have h1 := dh_clos_at hc hs
    rw [Nat.zero_add] at h1
    rw [Option.map_some, Option.map_some, Nat.zero_add, ha k hk, dh_e_ext (adr' := fun j => as.getD j 0) (ri' := dh_z) (rl' := fun _ _ => 0) ha (hi k) rfl h1]
