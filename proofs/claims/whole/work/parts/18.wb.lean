/-! ===== the abstract machine, row by row (all by rfl): for simp only ===== -/
def dh_kI (o : Option dh_V) (k : Int → Prop) : Prop := match o with
  | some (.inl x) => k x
  | _ => False
def dh_kL (o : Option dh_V) (k : BitVec 64 → Prop) : Prop := match o with
  | some (.inr (.inl x)) => k x
  | _ => False
def dh_kR (o : Option dh_V) (k : Option Nat → Prop) : Prop := match o with
  | some (.inr (.inr x)) => k x
  | _ => False
theorem kI_s {x : Int} {k : Int → Prop} : dh_kI (some (.inl x)) k = k x := id rfl
theorem kL_s {x : BitVec 64} {k : BitVec 64 → Prop} : dh_kL (some (.inr (.inl x))) k = k x := id rfl
theorem kR_s {x : Option Nat} {k : Option Nat → Prop} : dh_kR (some (.inr (.inr x))) k = k x := id rfl
theorem lg_0 {a : Option dh_V} {t : dh_LS} : dh_lget (a :: t) 0 = a := id rfl
theorem lg_s {a : Option dh_V} {t : dh_LS} {n : Nat} : dh_lget (a :: t) (n + 1) = dh_lget t n := id rfl
theorem ls_0 {a v : Option dh_V} {t : dh_LS} : dh_lset (a :: t) 0 v = v :: t := id rfl
theorem ls_s {a v : Option dh_V} {t : dh_LS} {n : Nat} : dh_lset (a :: t) (n + 1) v = a :: dh_lset t n v := id rfl
theorem ik_i {x : Int} : dh_isL (some (.inl x)) = false := id rfl
theorem ik_l {x : BitVec 64} : dh_isL (some (.inr (.inl x))) = true := id rfl
theorem ik_r {x : Option Nat} : dh_isL (some (.inr (.inr x))) = false := id rfl
theorem ik_n : dh_isL none = false := id rfl
theorem kl_0 {ls : dh_LS} : dh_kill ls 0 = ls := id rfl
theorem kl_s {ls : dh_LS} {n : Nat} : dh_kill ls (n + 1) = if dh_isL (dh_lget ls n) then dh_lset ls n none else ls := id rfl
section WB
variable {sh : Nat → Option (Nat × Nat × Nat × Nat)} {C : dh_C} {K : Nat → dh_LS → List dh_V → dh_AH → Prop} {R : Option dh_V → dh_AH → Prop} {rs : List dh_RI} {ls : dh_LS} {st : List dh_V} {h : dh_AH} {a b mn n : Nat} {c : Int} {l : List (Int × Nat)} {x y i v : Int} {u w : BitVec 64} {p k q : Nat} {z : Option Nat}
def dh_po (sh : Nat → Option (Nat × Nat × Nat × Nat)) (C : dh_C) (K : Nat → dh_LS → List dh_V → dh_AH → Prop) (R : Option dh_V → dh_AH → Prop) (rs : List dh_RI) (o : Option dh_O) : Prop := match o with
    | none => False
    | some (.inl o) => dh_wpB sh C K R rs o.1 o.2.1 o.2.2
    | some (.inr (.inl o)) => K o.1 o.2.1 o.2.2.1 o.2.2.2
    | some (.inr (.inr (.inl o))) => R o.1 o.2
    | some (.inr (.inr (.inr o))) => C o.1 o.2.1 o.2.2.2.2 (fun v h' => dh_wpB sh C K R rs o.2.2.1 (v.toList ++ o.2.2.2.1) h')
theorem wb_po {r : dh_RI} : dh_wpB sh C K R (r :: rs) ls st h = dh_po sh C K R rs (dh_do sh r ls st h) := id rfl
theorem wb_if {r : dh_RI} {P : Prop} [Decidable P] {o1 o2 : Option dh_O} (hd : dh_do sh r ls st h = if P then o1 else o2) : dh_wpB sh C K R (r :: rs) ls st h = if P then dh_po sh C K R rs o1 else dh_po sh C K R rs o2 := by
  rw [wb_po, hd]
  split <;> rfl
theorem wb_an {r : dh_RI} {P : Prop} [Decidable P] {o1 : Option dh_O} (hd : dh_do sh r ls st h = if P then o1 else none) : dh_wpB sh C K R (r :: rs) ls st h = (P ∧ dh_po sh C K R rs o1) := by
  rw [wb_po, hd]
  by_cases q : P
  · rw [if_pos q]; exact propext ⟨fun h => ⟨q, h⟩, fun h => h.2⟩
  · rw [if_neg q]; exact propext ⟨fun h => h.elim, fun h => absurd h.1 q⟩
theorem wb_ldi : dh_wpB sh C K R ((0, a, 0, c, l) :: rs) ls (st) h = dh_kI (dh_lget ls a) (fun x => dh_wpB sh C K R rs ls (.inl x :: st) h) := by
  have hd : dh_do sh (0, a, 0, c, l) ls st h = (match dh_lget ls a with
    | some (.inl x) => dh_oN ls (.inl x :: st) h
    | _ => none) := id rfl
  rw [wb_po, hd]
  generalize dh_lget ls a = o
  match o with
  | none => rfl
  | some (.inl _) => rfl
  | some (.inr (.inl _)) => rfl
  | some (.inr (.inr _)) => rfl
theorem wb_ldl : dh_wpB sh C K R ((0, a, 1, c, l) :: rs) ls (st) h = dh_kL (dh_lget ls a) (fun x => dh_wpB sh C K R rs ls (.inr (.inl x) :: st) h) := by
  have hd : dh_do sh (0, a, 1, c, l) ls st h = (match dh_lget ls a with
    | some (.inr (.inl x)) => dh_oN ls (.inr (.inl x) :: st) h
    | _ => none) := id rfl
  rw [wb_po, hd]
  generalize dh_lget ls a = o
  match o with
  | none => rfl
  | some (.inl _) => rfl
  | some (.inr (.inl _)) => rfl
  | some (.inr (.inr _)) => rfl
theorem wb_ldr : dh_wpB sh C K R ((0, a, 2, c, l) :: rs) ls (st) h = dh_kR (dh_lget ls a) (fun x => dh_wpB sh C K R rs ls (.inr (.inr x) :: st) h) := by
  have hd : dh_do sh (0, a, 2, c, l) ls st h = (match dh_lget ls a with
    | some (.inr (.inr x)) => dh_oN ls (.inr (.inr x) :: st) h
    | _ => none) := id rfl
  rw [wb_po, hd]
  generalize dh_lget ls a = o
  match o with
  | none => rfl
  | some (.inl _) => rfl
  | some (.inr (.inl _)) => rfl
  | some (.inr (.inr _)) => rfl
theorem wb_iinc : dh_wpB sh C K R ((14, a, b, c, l) :: rs) ls (st) h = dh_kI (dh_lget ls a) (fun x => dh_wpB sh C K R rs (dh_st1 ls a (.inl (dh_wr (x + c)))) (st) h) := by
  have hd : dh_do sh (14, a, b, c, l) ls st h = (match dh_lget ls a with
    | some (.inl x) => dh_oN (dh_st1 ls a (.inl (dh_wr (x + c)))) st h
    | _ => none) := id rfl
  rw [wb_po, hd]
  generalize dh_lget ls a = o
  match o with
  | none => rfl
  | some (.inl _) => rfl
  | some (.inr (.inl _)) => rfl
  | some (.inr (.inr _)) => rfl
theorem wb_sti : dh_wpB sh C K R ((1, a, 0, c, l) :: rs) ls (.inl x :: st) h = dh_wpB sh C K R rs (dh_st1 ls a (.inl x)) (st) h := id rfl
theorem wb_str : dh_wpB sh C K R ((1, a, 2, c, l) :: rs) ls (.inr (.inr z) :: st) h = dh_wpB sh C K R rs (dh_st1 ls a (.inr (.inr z))) (st) h := id rfl
theorem wb_stl : dh_wpB sh C K R ((2, a, b, c, l) :: rs) ls (.inr (.inl u) :: st) h = dh_wpB sh C K R rs (dh_st2 ls a (.inr (.inl u))) (st) h := id rfl
theorem wb_ci : dh_wpB sh C K R ((3, a, b, c, l) :: rs) ls (st) h = dh_wpB sh C K R rs ls (.inl c :: st) h := id rfl
theorem wb_cl : dh_wpB sh C K R ((4, a, b, c, l) :: rs) ls (st) h = dh_wpB sh C K R rs ls (.inr (.inl (BitVec.ofInt 64 c)) :: st) h := id rfl
theorem wb_i0 : dh_wpB sh C K R ((5, 0, b, c, l) :: rs) ls (.inl y :: .inl x :: st) h = dh_wpB sh C K R rs ls (.inl (dh_wr (x + y)) :: st) h := id rfl
theorem wb_i1 : dh_wpB sh C K R ((5, 1, b, c, l) :: rs) ls (.inl y :: .inl x :: st) h = dh_wpB sh C K R rs ls (.inl (dh_wr (x - y)) :: st) h := id rfl
theorem wb_i2 : dh_wpB sh C K R ((5, 2, b, c, l) :: rs) ls (.inl y :: .inl x :: st) h = dh_wpB sh C K R rs ls (.inl (dh_wr (x * y)) :: st) h := id rfl
theorem wb_i5 : dh_wpB sh C K R ((5, 5, b, c, l) :: rs) ls (.inl y :: .inl x :: st) h = dh_wpB sh C K R rs ls (.inl ((Int32.ofInt x &&& Int32.ofInt y).toInt) :: st) h := id rfl
theorem wb_i6 : dh_wpB sh C K R ((5, 6, b, c, l) :: rs) ls (.inl y :: .inl x :: st) h = dh_wpB sh C K R rs ls (.inl ((Int32.ofInt x ||| Int32.ofInt y).toInt) :: st) h := id rfl
theorem wb_i7 : dh_wpB sh C K R ((5, 7, b, c, l) :: rs) ls (.inl y :: .inl x :: st) h = dh_wpB sh C K R rs ls (.inl ((Int32.ofInt x <<< (Int32.ofInt y &&& 31)).toInt) :: st) h := id rfl
theorem wb_i8 : dh_wpB sh C K R ((5, 8, b, c, l) :: rs) ls (.inl y :: .inl x :: st) h = dh_wpB sh C K R rs ls (.inl ((Int32.ofInt x >>> (Int32.ofInt y &&& 31)).toInt) :: st) h := id rfl
theorem wb_i9 : dh_wpB sh C K R ((5, 9, b, c, l) :: rs) ls (.inl y :: .inl x :: st) h = dh_wpB sh C K R rs ls (.inl (((Int32.ofInt x).toUInt32 >>> ((Int32.ofInt y).toUInt32 &&& Int32.toUInt32 31)).toInt32.toInt) :: st) h := id rfl
theorem wb_i3 : dh_wpB sh C K R ((5, 3, b, c, l) :: rs) ls (.inl y :: .inl x :: st) h = (y ≠ 0 ∧ dh_wpB sh C K R rs ls (.inl (dh_wr (x.tdiv y)) :: st) h) := by
  rw [wb_po]
  show dh_po sh C K R rs (match (if y = 0 then none else some (dh_wr (x.tdiv y))) with
    | some v => dh_oN ls (.inl v :: st) h
    | none => none) = _
  by_cases q : y = 0
  · rw [if_pos q]; exact propext ⟨fun h => h.elim, fun h => absurd q h.1⟩
  · rw [if_neg q]; exact propext ⟨fun h => ⟨q, h⟩, fun h => h.2⟩
theorem wb_i4 : dh_wpB sh C K R ((5, 4, b, c, l) :: rs) ls (.inl y :: .inl x :: st) h = (y ≠ 0 ∧ dh_wpB sh C K R rs ls (.inl (x.tmod y) :: st) h) := by
  rw [wb_po]
  show dh_po sh C K R rs (match (if y = 0 then none else some (x.tmod y)) with
    | some v => dh_oN ls (.inl v :: st) h
    | none => none) = _
  by_cases q : y = 0
  · rw [if_pos q]; exact propext ⟨fun h => h.elim, fun h => absurd q h.1⟩
  · rw [if_neg q]; exact propext ⟨fun h => ⟨q, h⟩, fun h => h.2⟩
theorem wb_l0 : dh_wpB sh C K R ((6, 0, b, c, l) :: rs) ls (.inr (.inl w) :: .inr (.inl u) :: st) h = dh_wpB sh C K R rs ls (.inr (.inl (u + w)) :: st) h := id rfl
theorem wb_l1 : dh_wpB sh C K R ((6, 1, b, c, l) :: rs) ls (.inr (.inl w) :: .inr (.inl u) :: st) h = dh_wpB sh C K R rs ls (.inr (.inl (u - w)) :: st) h := id rfl
theorem wb_l2 : dh_wpB sh C K R ((6, 2, b, c, l) :: rs) ls (.inr (.inl w) :: .inr (.inl u) :: st) h = dh_wpB sh C K R rs ls (.inr (.inl (u * w)) :: st) h := id rfl
theorem wb_l5 : dh_wpB sh C K R ((6, 5, b, c, l) :: rs) ls (.inr (.inl w) :: .inr (.inl u) :: st) h = dh_wpB sh C K R rs ls (.inr (.inl (u &&& w)) :: st) h := id rfl
theorem wb_l6 : dh_wpB sh C K R ((6, 6, b, c, l) :: rs) ls (.inr (.inl w) :: .inr (.inl u) :: st) h = dh_wpB sh C K R rs ls (.inr (.inl (u ||| w)) :: st) h := id rfl
theorem wb_l3 : dh_wpB sh C K R ((6, 3, b, c, l) :: rs) ls (.inr (.inl w) :: .inr (.inl u) :: st) h = (w ≠ 0 ∧ dh_wpB sh C K R rs ls (.inr (.inl (u.sdiv w)) :: st) h) := by
  rw [wb_po]
  show dh_po sh C K R rs (match (if w = 0 then none else some (u.sdiv w)) with
    | some v => dh_oN ls (.inr (.inl v) :: st) h
    | none => none) = _
  by_cases q : w = 0
  · rw [if_pos q]; exact propext ⟨fun h => h.elim, fun h => absurd q h.1⟩
  · rw [if_neg q]; exact propext ⟨fun h => ⟨q, h⟩, fun h => h.2⟩
theorem wb_l4 : dh_wpB sh C K R ((6, 4, b, c, l) :: rs) ls (.inr (.inl w) :: .inr (.inl u) :: st) h = (w ≠ 0 ∧ dh_wpB sh C K R rs ls (.inr (.inl (u.srem w)) :: st) h) := by
  rw [wb_po]
  show dh_po sh C K R rs (match (if w = 0 then none else some (u.srem w)) with
    | some v => dh_oN ls (.inr (.inl v) :: st) h
    | none => none) = _
  by_cases q : w = 0
  · rw [if_pos q]; exact propext ⟨fun h => h.elim, fun h => absurd q h.1⟩
  · rw [if_neg q]; exact propext ⟨fun h => ⟨q, h⟩, fun h => h.2⟩
theorem wb_s0 : dh_wpB sh C K R ((7, 0, b, c, l) :: rs) ls (.inl y :: .inr (.inl u) :: st) h = dh_wpB sh C K R rs ls (.inr (.inl (u <<< (y % 64).toNat)) :: st) h := id rfl
theorem wb_s1 : dh_wpB sh C K R ((7, 1, b, c, l) :: rs) ls (.inl y :: .inr (.inl u) :: st) h = dh_wpB sh C K R rs ls (.inr (.inl (u.sshiftRight (y % 64).toNat)) :: st) h := id rfl
theorem wb_s2 : dh_wpB sh C K R ((7, 2, b, c, l) :: rs) ls (.inl y :: .inr (.inl u) :: st) h = dh_wpB sh C K R rs ls (.inr (.inl (u >>> (y % 64).toNat)) :: st) h := id rfl
theorem wb_i2l : dh_wpB sh C K R ((8, a, b, c, l) :: rs) ls (.inl x :: st) h = dh_wpB sh C K R rs ls (.inr (.inl (BitVec.ofInt 64 x)) :: st) h := id rfl
theorem wb_l2i : dh_wpB sh C K R ((9, a, b, c, l) :: rs) ls (.inr (.inl u) :: st) h = dh_wpB sh C K R rs ls (.inl (dh_wr u.toInt) :: st) h := id rfl
theorem wb_i2b : dh_wpB sh C K R ((10, a, b, c, l) :: rs) ls (.inl x :: st) h = dh_wpB sh C K R rs ls (.inl (Int.bmod x 256) :: st) h := id rfl
theorem wb_lcmp : dh_wpB sh C K R ((11, a, b, c, l) :: rs) ls (.inr (.inl w) :: .inr (.inl u) :: st) h = dh_wpB sh C K R rs ls (.inl (if u.toInt < w.toInt then -1 else if u = w then 0 else 1) :: st) h := id rfl
theorem wb_dupi : dh_wpB sh C K R ((12, a, b, c, l) :: rs) ls (.inl x :: st) h = dh_wpB sh C K R rs ls (.inl x :: .inl x :: st) h := id rfl
theorem wb_dupr : dh_wpB sh C K R ((12, a, b, c, l) :: rs) ls (.inr (.inr z) :: st) h = dh_wpB sh C K R rs ls (.inr (.inr z) :: .inr (.inr z) :: st) h := id rfl
theorem wb_popi : dh_wpB sh C K R ((13, a, b, c, l) :: rs) ls (.inl x :: st) h = dh_wpB sh C K R rs ls (st) h := id rfl
theorem wb_popr : dh_wpB sh C K R ((13, a, b, c, l) :: rs) ls (.inr (.inr z) :: st) h = dh_wpB sh C K R rs ls (st) h := id rfl
theorem wb_ic0 : dh_wpB sh C K R ((16, 0, b, c, l) :: rs) ls (.inl y :: .inl x :: st) h = if x = y then K b ls st h else dh_wpB sh C K R rs ls (st) h := (wb_if (o1 := dh_oJ b ls st h) (o2 := dh_oN ls st h) (by show (if decide (x = y) = true then _ else _) = _; simp only [decide_eq_true_eq])).trans rfl
theorem wb_if0 : dh_wpB sh C K R ((15, 0, b, c, l) :: rs) ls (.inl x :: st) h = if x = 0 then K b ls st h else dh_wpB sh C K R rs ls (st) h := (wb_if (o1 := dh_oJ b ls st h) (o2 := dh_oN ls st h) (by show (if decide (x = 0) = true then _ else _) = _; simp only [decide_eq_true_eq])).trans rfl
theorem wb_ic1 : dh_wpB sh C K R ((16, 1, b, c, l) :: rs) ls (.inl y :: .inl x :: st) h = if x ≠ y then K b ls st h else dh_wpB sh C K R rs ls (st) h := (wb_if (o1 := dh_oJ b ls st h) (o2 := dh_oN ls st h) (by show (if decide (x ≠ y) = true then _ else _) = _; simp only [decide_eq_true_eq])).trans rfl
theorem wb_if1 : dh_wpB sh C K R ((15, 1, b, c, l) :: rs) ls (.inl x :: st) h = if x ≠ 0 then K b ls st h else dh_wpB sh C K R rs ls (st) h := (wb_if (o1 := dh_oJ b ls st h) (o2 := dh_oN ls st h) (by show (if decide (x ≠ 0) = true then _ else _) = _; simp only [decide_eq_true_eq])).trans rfl
theorem wb_ic2 : dh_wpB sh C K R ((16, 2, b, c, l) :: rs) ls (.inl y :: .inl x :: st) h = if x < y then K b ls st h else dh_wpB sh C K R rs ls (st) h := (wb_if (o1 := dh_oJ b ls st h) (o2 := dh_oN ls st h) (by show (if decide (x < y) = true then _ else _) = _; simp only [decide_eq_true_eq])).trans rfl
theorem wb_if2 : dh_wpB sh C K R ((15, 2, b, c, l) :: rs) ls (.inl x :: st) h = if x < 0 then K b ls st h else dh_wpB sh C K R rs ls (st) h := (wb_if (o1 := dh_oJ b ls st h) (o2 := dh_oN ls st h) (by show (if decide (x < 0) = true then _ else _) = _; simp only [decide_eq_true_eq])).trans rfl
theorem wb_ic3 : dh_wpB sh C K R ((16, 3, b, c, l) :: rs) ls (.inl y :: .inl x :: st) h = if y ≤ x then K b ls st h else dh_wpB sh C K R rs ls (st) h := (wb_if (o1 := dh_oJ b ls st h) (o2 := dh_oN ls st h) (by show (if decide (y ≤ x) = true then _ else _) = _; simp only [decide_eq_true_eq])).trans rfl
theorem wb_if3 : dh_wpB sh C K R ((15, 3, b, c, l) :: rs) ls (.inl x :: st) h = if 0 ≤ x then K b ls st h else dh_wpB sh C K R rs ls (st) h := (wb_if (o1 := dh_oJ b ls st h) (o2 := dh_oN ls st h) (by show (if decide (0 ≤ x) = true then _ else _) = _; simp only [decide_eq_true_eq])).trans rfl
theorem wb_ic4 : dh_wpB sh C K R ((16, 4, b, c, l) :: rs) ls (.inl y :: .inl x :: st) h = if y < x then K b ls st h else dh_wpB sh C K R rs ls (st) h := (wb_if (o1 := dh_oJ b ls st h) (o2 := dh_oN ls st h) (by show (if decide (y < x) = true then _ else _) = _; simp only [decide_eq_true_eq])).trans rfl
theorem wb_if4 : dh_wpB sh C K R ((15, 4, b, c, l) :: rs) ls (.inl x :: st) h = if 0 < x then K b ls st h else dh_wpB sh C K R rs ls (st) h := (wb_if (o1 := dh_oJ b ls st h) (o2 := dh_oN ls st h) (by show (if decide (0 < x) = true then _ else _) = _; simp only [decide_eq_true_eq])).trans rfl
theorem wb_ic5 : dh_wpB sh C K R ((16, 5, b, c, l) :: rs) ls (.inl y :: .inl x :: st) h = if x ≤ y then K b ls st h else dh_wpB sh C K R rs ls (st) h := (wb_if (o1 := dh_oJ b ls st h) (o2 := dh_oN ls st h) (by show (if decide (x ≤ y) = true then _ else _) = _; simp only [decide_eq_true_eq])).trans rfl
theorem wb_if5 : dh_wpB sh C K R ((15, 5, b, c, l) :: rs) ls (.inl x :: st) h = if x ≤ 0 then K b ls st h else dh_wpB sh C K R rs ls (st) h := (wb_if (o1 := dh_oJ b ls st h) (o2 := dh_oN ls st h) (by show (if decide (x ≤ 0) = true then _ else _) = _; simp only [decide_eq_true_eq])).trans rfl
theorem wb_nu0 : dh_wpB sh C K R ((17, a, b, c, l) :: rs) ls (.inr (.inr none) :: st) h = K b ls st h := id rfl
theorem wb_nu1 : dh_wpB sh C K R ((17, a, b, c, l) :: rs) ls (.inr (.inr (some p)) :: st) h = dh_wpB sh C K R rs ls (st) h := id rfl
theorem wb_nn0 : dh_wpB sh C K R ((18, a, b, c, l) :: rs) ls (.inr (.inr none) :: st) h = dh_wpB sh C K R rs ls (st) h := id rfl
theorem wb_nn1 : dh_wpB sh C K R ((18, a, b, c, l) :: rs) ls (.inr (.inr (some p)) :: st) h = K b ls st h := id rfl
theorem wb_go : dh_wpB sh C K R ((19, a, b, c, l) :: rs) ls (st) h = K b ls st h := id rfl
theorem wb_fall : dh_wpB sh C K R ((39, a, b, c, l) :: rs) ls (st) h = K b ls st h := id rfl
theorem wb_ri : dh_wpB sh C K R ((20, 0, b, c, l) :: rs) ls ([.inl x]) h = R (some (.inl x)) h := id rfl
theorem wb_rl : dh_wpB sh C K R ((20, 1, b, c, l) :: rs) ls ([.inr (.inl u)]) h = R (some (.inr (.inl u))) h := id rfl
theorem wb_rr : dh_wpB sh C K R ((20, 2, b, c, l) :: rs) ls ([.inr (.inr z)]) h = R (some (.inr (.inr z))) h := id rfl
theorem wb_rz : dh_wpB sh C K R ((20, 3, b, c, l) :: rs) ls ([.inl x]) h = ((x = 0 ∨ x = 1) ∧ R (some (.inl x)) h) := (wb_an (o1 := dh_oR (some (.inl x)) h) rfl).trans rfl
theorem wb_rv : dh_wpB sh C K R ((21, a, b, c, l) :: rs) ls ([]) h = R none h := id rfl
theorem wb_gi : dh_wpB sh C K R ((22, a, k, c, l) :: rs) ls (.inr (.inr (some p)) :: st) h = (sh p = some (0, a, 0, 0) ∧ dh_wpB sh C K R rs ls (.inl (h.1 p k) :: st) h) := (wb_an (o1 := dh_oN ls (.inl (h.1 p k) :: st) h) rfl).trans rfl
theorem wb_gr : dh_wpB sh C K R ((24, a, k, c, l) :: rs) ls (.inr (.inr (some p)) :: st) h = (sh p = some (0, a, 0, 0) ∧ dh_wpB sh C K R rs ls (.inr (.inr (some (p + c.toNat))) :: st) h) := (wb_an (o1 := dh_oN ls (.inr (.inr (some (p + c.toNat))) :: st) h) rfl).trans rfl
theorem wb_pi : dh_wpB sh C K R ((25, a, k, c, l) :: rs) ls (.inl v :: .inr (.inr (some p)) :: st) h = ((sh p = some (0, a, 0, 0) ∧ (c = 1 → v = 0 ∨ v = 1)) ∧ dh_wpB sh C K R rs ls (st) (dh_ui h p k v)) := (wb_an (o1 := dh_oN ls st (dh_ui h p k v)) rfl).trans rfl
def dh_k18 (t : Nat) : Bool := decide (t = 1) || decide (t = 8)
def dh_k34 (t : Nat) : Bool := decide (t = 3) || decide (t = 4)
def dh_k1 (t : Nat) : Bool := decide (t = 1)
def dh_k2 (t : Nat) : Bool := decide (t = 2)
def dh_k128 (t : Nat) : Bool := decide (t = 1) || decide (t = 2) || decide (t = 8)
def dh_k567 (t : Nat) : Bool := decide (t = 5) || decide (t = 6) || decide (t = 7)
theorem po_if {P : Prop} [Decidable P] {o : Option dh_O} : dh_po sh C K R rs (if P then o else none) = (P ∧ dh_po sh C K R rs o) := by
  by_cases q : P
  · rw [if_pos q]; exact propext ⟨fun h => ⟨q, h⟩, fun h => h.2⟩
  · rw [if_neg q]; exact propext ⟨fun h => h.elim, fun h => absurd h.1 q⟩
/-- an array of a kind, an index within it, what comes then (by its offsets) -/
def dh_aK (kd : Nat → Bool) (s : Option (Nat × Nat × Nat × Nat)) (i : Int) (k : Nat → Nat → Prop) : Prop := match s with
  | some (t, n, b, c) => kd t = true ∧ (0 ≤ i ∧ i < n) ∧ k b c
  | none => False
theorem aK_s {kd : Nat → Bool} {t m r s : Nat} {P : Nat → Nat → Prop} : dh_aK kd (some (t, m, r, s)) i P = (kd t = true ∧ (0 ≤ i ∧ i < m) ∧ P r s) := id rfl
def dh_aN (kd : Nat → Bool) (s : Option (Nat × Nat × Nat × Nat)) (k : Int → Prop) : Prop := match s with
  | some (t, n, _, _) => kd t = true ∧ k n
  | none => False
theorem aN_s {kd : Nat → Bool} {t m r s : Nat} {P : Int → Prop} : dh_aN kd (some (t, m, r, s)) P = (kd t = true ∧ P m) := id rfl
def dh_aZ (s : Option (Nat × Nat × Nat × Nat)) (i v : Int) (k : Int → Prop) : Prop := match s with
  | some (t, n, _, _) => dh_k34 t = true ∧ (0 ≤ i ∧ i < n) ∧ (t = 4 → v = 0 ∨ v = 1) ∧ k (if t = 3 then Int.bmod v 256 else v)
  | none => False
theorem aZ_s {t m r s : Nat} {P : Int → Prop} : dh_aZ (some (t, m, r, s)) i v P = (dh_k34 t = true ∧ (0 ≤ i ∧ i < m) ∧ (t = 4 → v = 0 ∨ v = 1) ∧ P (if t = 3 then Int.bmod v 256 else v)) := id rfl
theorem k18_1 : dh_k18 1 = true := id rfl
theorem k18_8 : dh_k18 8 = true := id rfl
theorem k34_3 : dh_k34 3 = true := id rfl
theorem k34_4 : dh_k34 4 = true := id rfl
theorem k1_1 : dh_k1 1 = true := id rfl
theorem k2_2 : dh_k2 2 = true := id rfl
theorem k128_1 : dh_k128 1 = true := id rfl
theorem k128_2 : dh_k128 2 = true := id rfl
theorem k128_8 : dh_k128 8 = true := id rfl
theorem k567_5 : dh_k567 5 = true := id rfl
theorem k567_6 : dh_k567 6 = true := id rfl
theorem k567_7 : dh_k567 7 = true := id rfl
theorem wb_iald : dh_wpB sh C K R ((27, 1, b, c, l) :: rs) ls (.inl i :: .inr (.inr (some p)) :: st) h = dh_aK dh_k18 (sh p) i (fun _ _ => dh_wpB sh C K R rs ls (.inl (h.1 p i.toNat) :: st) h) := by
  rw [wb_po]
  show dh_po sh C K R rs (match sh p with
    | some (1, n, e, f) => if 0 ≤ i ∧ i < (n : Int) then dh_oN ls (.inl (h.1 p i.toNat) :: st) h else none
    | some (8, n, e, f) => if 0 ≤ i ∧ i < (n : Int) then dh_oN ls (.inl (h.1 p i.toNat) :: st) h else none
    | _ => none) = _
  generalize sh p = s
  match s with
  | none => exact propext ⟨fun h => h.elim, fun h => h.elim⟩
  | some (0, n, e, f) => exact propext ⟨fun h => h.elim, fun h => absurd h.1 (by decide)⟩
  | some (1, n, e, f) => exact po_if.trans (propext ⟨fun h => ⟨rfl, h⟩, fun h => h.2⟩)
  | some (2, n, e, f) => exact propext ⟨fun h => h.elim, fun h => absurd h.1 (by decide)⟩
  | some (3, n, e, f) => exact propext ⟨fun h => h.elim, fun h => absurd h.1 (by decide)⟩
  | some (4, n, e, f) => exact propext ⟨fun h => h.elim, fun h => absurd h.1 (by decide)⟩
  | some (5, n, e, f) => exact propext ⟨fun h => h.elim, fun h => absurd h.1 (by decide)⟩
  | some (6, n, e, f) => exact propext ⟨fun h => h.elim, fun h => absurd h.1 (by decide)⟩
  | some (7, n, e, f) => exact propext ⟨fun h => h.elim, fun h => absurd h.1 (by decide)⟩
  | some (8, n, e, f) => exact po_if.trans (propext ⟨fun h => ⟨rfl, h⟩, fun h => h.2⟩)
  | some (t + 9, n, e, f) => exact propext ⟨fun h => h.elim, fun h => absurd h.1 (by simp [dh_k18])⟩
theorem wb_bald : dh_wpB sh C K R ((27, 0, b, c, l) :: rs) ls (.inl i :: .inr (.inr (some p)) :: st) h = dh_aK dh_k34 (sh p) i (fun _ _ => dh_wpB sh C K R rs ls (.inl (h.1 p i.toNat) :: st) h) := by
  rw [wb_po]
  show dh_po sh C K R rs (match sh p with
    | some (3, n, e, f) => if 0 ≤ i ∧ i < (n : Int) then dh_oN ls (.inl (h.1 p i.toNat) :: st) h else none
    | some (4, n, e, f) => if 0 ≤ i ∧ i < (n : Int) then dh_oN ls (.inl (h.1 p i.toNat) :: st) h else none
    | _ => none) = _
  generalize sh p = s
  match s with
  | none => exact propext ⟨fun h => h.elim, fun h => h.elim⟩
  | some (0, n, e, f) => exact propext ⟨fun h => h.elim, fun h => absurd h.1 (by decide)⟩
  | some (1, n, e, f) => exact propext ⟨fun h => h.elim, fun h => absurd h.1 (by decide)⟩
  | some (2, n, e, f) => exact propext ⟨fun h => h.elim, fun h => absurd h.1 (by decide)⟩
  | some (3, n, e, f) => exact po_if.trans (propext ⟨fun h => ⟨rfl, h⟩, fun h => h.2⟩)
  | some (4, n, e, f) => exact po_if.trans (propext ⟨fun h => ⟨rfl, h⟩, fun h => h.2⟩)
  | some (5, n, e, f) => exact propext ⟨fun h => h.elim, fun h => absurd h.1 (by decide)⟩
  | some (6, n, e, f) => exact propext ⟨fun h => h.elim, fun h => absurd h.1 (by decide)⟩
  | some (7, n, e, f) => exact propext ⟨fun h => h.elim, fun h => absurd h.1 (by decide)⟩
  | some (8, n, e, f) => exact propext ⟨fun h => h.elim, fun h => absurd h.1 (by decide)⟩
  | some (t + 9, n, e, f) => exact propext ⟨fun h => h.elim, fun h => absurd h.1 (by simp [dh_k34])⟩
theorem wb_lald : dh_wpB sh C K R ((28, a, b, c, l) :: rs) ls (.inl i :: .inr (.inr (some p)) :: st) h = dh_aK dh_k2 (sh p) i (fun _ _ => dh_wpB sh C K R rs ls (.inr (.inl (h.2 p i.toNat)) :: st) h) := by
  rw [wb_po]
  show dh_po sh C K R rs (match sh p with
    | some (2, n, e, f) => if 0 ≤ i ∧ i < (n : Int) then dh_oN ls (.inr (.inl (h.2 p i.toNat)) :: st) h else none
    | _ => none) = _
  generalize sh p = s
  match s with
  | none => exact propext ⟨fun h => h.elim, fun h => h.elim⟩
  | some (0, n, e, f) => exact propext ⟨fun h => h.elim, fun h => absurd h.1 (by decide)⟩
  | some (1, n, e, f) => exact propext ⟨fun h => h.elim, fun h => absurd h.1 (by decide)⟩
  | some (2, n, e, f) => exact po_if.trans (propext ⟨fun h => ⟨rfl, h⟩, fun h => h.2⟩)
  | some (3, n, e, f) => exact propext ⟨fun h => h.elim, fun h => absurd h.1 (by decide)⟩
  | some (4, n, e, f) => exact propext ⟨fun h => h.elim, fun h => absurd h.1 (by decide)⟩
  | some (5, n, e, f) => exact propext ⟨fun h => h.elim, fun h => absurd h.1 (by decide)⟩
  | some (6, n, e, f) => exact propext ⟨fun h => h.elim, fun h => absurd h.1 (by decide)⟩
  | some (7, n, e, f) => exact propext ⟨fun h => h.elim, fun h => absurd h.1 (by decide)⟩
  | some (8, n, e, f) => exact propext ⟨fun h => h.elim, fun h => absurd h.1 (by decide)⟩
  | some (t + 9, n, e, f) => exact propext ⟨fun h => h.elim, fun h => absurd h.1 (by simp [dh_k2])⟩
theorem wb_aald : dh_wpB sh C K R ((29, a, b, c, l) :: rs) ls (.inl i :: .inr (.inr (some p)) :: st) h = dh_aK dh_k567 (sh p) i (fun e f => dh_wpB sh C K R rs ls (.inr (.inr (some (p + e + i.toNat * f))) :: st) h) := by
  rw [wb_po]
  show dh_po sh C K R rs (match sh p with
    | some (5, n, e, f) => if 0 ≤ i ∧ i < (n : Int) then dh_oN ls (.inr (.inr (some (p + e + i.toNat * f))) :: st) h else none
    | some (6, n, e, f) => if 0 ≤ i ∧ i < (n : Int) then dh_oN ls (.inr (.inr (some (p + e + i.toNat * f))) :: st) h else none
    | some (7, n, e, f) => if 0 ≤ i ∧ i < (n : Int) then dh_oN ls (.inr (.inr (some (p + e + i.toNat * f))) :: st) h else none
    | _ => none) = _
  generalize sh p = s
  match s with
  | none => exact propext ⟨fun h => h.elim, fun h => h.elim⟩
  | some (0, n, e, f) => exact propext ⟨fun h => h.elim, fun h => absurd h.1 (by decide)⟩
  | some (1, n, e, f) => exact propext ⟨fun h => h.elim, fun h => absurd h.1 (by decide)⟩
  | some (2, n, e, f) => exact propext ⟨fun h => h.elim, fun h => absurd h.1 (by decide)⟩
  | some (3, n, e, f) => exact propext ⟨fun h => h.elim, fun h => absurd h.1 (by decide)⟩
  | some (4, n, e, f) => exact propext ⟨fun h => h.elim, fun h => absurd h.1 (by decide)⟩
  | some (5, n, e, f) => exact po_if.trans (propext ⟨fun h => ⟨rfl, h⟩, fun h => h.2⟩)
  | some (6, n, e, f) => exact po_if.trans (propext ⟨fun h => ⟨rfl, h⟩, fun h => h.2⟩)
  | some (7, n, e, f) => exact po_if.trans (propext ⟨fun h => ⟨rfl, h⟩, fun h => h.2⟩)
  | some (8, n, e, f) => exact propext ⟨fun h => h.elim, fun h => absurd h.1 (by decide)⟩
  | some (t + 9, n, e, f) => exact propext ⟨fun h => h.elim, fun h => absurd h.1 (by simp [dh_k567])⟩
theorem wb_iast : dh_wpB sh C K R ((30, 1, b, c, l) :: rs) ls (.inl v :: .inl i :: .inr (.inr (some p)) :: st) h = dh_aK dh_k1 (sh p) i (fun _ _ => dh_wpB sh C K R rs ls (st) (dh_ui h p i.toNat v)) := by
  rw [wb_po]
  show dh_po sh C K R rs (match sh p with
    | some (1, n, e, f) => if 0 ≤ i ∧ i < (n : Int) then dh_oN ls st (dh_ui h p i.toNat v) else none
    | _ => none) = _
  generalize sh p = s
  match s with
  | none => exact propext ⟨fun h => h.elim, fun h => h.elim⟩
  | some (0, n, e, f) => exact propext ⟨fun h => h.elim, fun h => absurd h.1 (by decide)⟩
  | some (1, n, e, f) => exact po_if.trans (propext ⟨fun h => ⟨rfl, h⟩, fun h => h.2⟩)
  | some (2, n, e, f) => exact propext ⟨fun h => h.elim, fun h => absurd h.1 (by decide)⟩
  | some (3, n, e, f) => exact propext ⟨fun h => h.elim, fun h => absurd h.1 (by decide)⟩
  | some (4, n, e, f) => exact propext ⟨fun h => h.elim, fun h => absurd h.1 (by decide)⟩
  | some (5, n, e, f) => exact propext ⟨fun h => h.elim, fun h => absurd h.1 (by decide)⟩
  | some (6, n, e, f) => exact propext ⟨fun h => h.elim, fun h => absurd h.1 (by decide)⟩
  | some (7, n, e, f) => exact propext ⟨fun h => h.elim, fun h => absurd h.1 (by decide)⟩
  | some (8, n, e, f) => exact propext ⟨fun h => h.elim, fun h => absurd h.1 (by decide)⟩
  | some (t + 9, n, e, f) => exact propext ⟨fun h => h.elim, fun h => absurd h.1 (by simp [dh_k1])⟩
theorem wb_last : dh_wpB sh C K R ((31, a, b, c, l) :: rs) ls (.inr (.inl u) :: .inl i :: .inr (.inr (some p)) :: st) h = dh_aK dh_k2 (sh p) i (fun _ _ => dh_wpB sh C K R rs ls (st) (dh_ul h p i.toNat u)) := by
  rw [wb_po]
  show dh_po sh C K R rs (match sh p with
    | some (2, n, e, f) => if 0 ≤ i ∧ i < (n : Int) then dh_oN ls st (dh_ul h p i.toNat u) else none
    | _ => none) = _
  generalize sh p = s
  match s with
  | none => exact propext ⟨fun h => h.elim, fun h => h.elim⟩
  | some (0, n, e, f) => exact propext ⟨fun h => h.elim, fun h => absurd h.1 (by decide)⟩
  | some (1, n, e, f) => exact propext ⟨fun h => h.elim, fun h => absurd h.1 (by decide)⟩
  | some (2, n, e, f) => exact po_if.trans (propext ⟨fun h => ⟨rfl, h⟩, fun h => h.2⟩)
  | some (3, n, e, f) => exact propext ⟨fun h => h.elim, fun h => absurd h.1 (by decide)⟩
  | some (4, n, e, f) => exact propext ⟨fun h => h.elim, fun h => absurd h.1 (by decide)⟩
  | some (5, n, e, f) => exact propext ⟨fun h => h.elim, fun h => absurd h.1 (by decide)⟩
  | some (6, n, e, f) => exact propext ⟨fun h => h.elim, fun h => absurd h.1 (by decide)⟩
  | some (7, n, e, f) => exact propext ⟨fun h => h.elim, fun h => absurd h.1 (by decide)⟩
  | some (8, n, e, f) => exact propext ⟨fun h => h.elim, fun h => absurd h.1 (by decide)⟩
  | some (t + 9, n, e, f) => exact propext ⟨fun h => h.elim, fun h => absurd h.1 (by simp [dh_k2])⟩
theorem wb_bast : dh_wpB sh C K R ((30, 0, b, c, l) :: rs) ls (.inl v :: .inl i :: .inr (.inr (some p)) :: st) h = dh_aZ (sh p) i v (fun v => dh_wpB sh C K R rs ls (st) (dh_ui h p i.toNat v)) := by
  rw [wb_po]
  show dh_po sh C K R rs (match sh p with
    | some (3, n, e, f) => if 0 ≤ i ∧ i < (n : Int) then dh_oN ls st (dh_ui h p i.toNat (Int.bmod v 256)) else none
    | some (4, n, e, f) => if (0 ≤ i ∧ i < (n : Int)) ∧ (v = 0 ∨ v = 1) then dh_oN ls st (dh_ui h p i.toNat v) else none
    | _ => none) = _
  generalize sh p = s
  match s with
  | none => exact propext ⟨fun h => h.elim, fun h => h.elim⟩
  | some (0, n, e, f) => exact propext ⟨fun h => h.elim, fun h => absurd h.1 (by decide)⟩
  | some (1, n, e, f) => exact propext ⟨fun h => h.elim, fun h => absurd h.1 (by decide)⟩
  | some (2, n, e, f) => exact propext ⟨fun h => h.elim, fun h => absurd h.1 (by decide)⟩
  | some (3, n, e, f) => exact po_if.trans (propext ⟨fun h => ⟨rfl, h.1, fun h => absurd h (by decide), h.2⟩, fun h => ⟨h.2.1, h.2.2.2⟩⟩)
  | some (4, n, e, f) => exact po_if.trans (propext ⟨fun h => ⟨rfl, h.1.1, fun _ => h.1.2, h.2⟩, fun h => ⟨⟨h.2.1, h.2.2.1 rfl⟩, h.2.2.2⟩⟩)
  | some (5, n, e, f) => exact propext ⟨fun h => h.elim, fun h => absurd h.1 (by decide)⟩
  | some (6, n, e, f) => exact propext ⟨fun h => h.elim, fun h => absurd h.1 (by decide)⟩
  | some (7, n, e, f) => exact propext ⟨fun h => h.elim, fun h => absurd h.1 (by decide)⟩
  | some (8, n, e, f) => exact propext ⟨fun h => h.elim, fun h => absurd h.1 (by decide)⟩
  | some (t + 9, n, e, f) => exact propext ⟨fun h => h.elim, fun h => absurd h.1 (by simp [dh_k34])⟩
theorem wb_len : dh_wpB sh C K R ((32, a, b, c, l) :: rs) ls (.inr (.inr (some p)) :: st) h = dh_aN dh_k128 (sh p) (fun n => dh_wpB sh C K R rs ls (.inl n :: st) h) := by
  rw [wb_po]
  show dh_po sh C K R rs (match sh p with
    | some (1, n, e, f) => dh_oN ls (.inl (n : Int) :: st) h
    | some (2, n, e, f) => dh_oN ls (.inl (n : Int) :: st) h
    | some (8, n, e, f) => dh_oN ls (.inl (n : Int) :: st) h
    | _ => none) = _
  generalize sh p = s
  match s with
  | none => exact propext ⟨fun h => h.elim, fun h => h.elim⟩
  | some (0, n, e, f) => exact propext ⟨fun h => h.elim, fun h => absurd h.1 (by decide)⟩
  | some (1, n, e, f) => exact propext ⟨fun h => ⟨rfl, h⟩, fun h => h.2⟩
  | some (2, n, e, f) => exact propext ⟨fun h => ⟨rfl, h⟩, fun h => h.2⟩
  | some (3, n, e, f) => exact propext ⟨fun h => h.elim, fun h => absurd h.1 (by decide)⟩
  | some (4, n, e, f) => exact propext ⟨fun h => h.elim, fun h => absurd h.1 (by decide)⟩
  | some (5, n, e, f) => exact propext ⟨fun h => h.elim, fun h => absurd h.1 (by decide)⟩
  | some (6, n, e, f) => exact propext ⟨fun h => h.elim, fun h => absurd h.1 (by decide)⟩
  | some (7, n, e, f) => exact propext ⟨fun h => h.elim, fun h => absurd h.1 (by decide)⟩
  | some (8, n, e, f) => exact propext ⟨fun h => ⟨rfl, h⟩, fun h => h.2⟩
  | some (t + 9, n, e, f) => exact propext ⟨fun h => h.elim, fun h => absurd h.1 (by simp [dh_k128])⟩
theorem wb_null : dh_wpB sh C K R ((35, a, b, c, l) :: rs) ls (st) h = dh_wpB sh C K R rs ls (.inr (.inr none) :: st) h := id rfl
theorem wb_sw : dh_wpB sh C K R ((34, a, b, c, l) :: rs) ls (.inl x :: st) h = K (dh_sw l b x) ls st h := id rfl
theorem wb_cs1 {v1 : dh_V} : dh_wpB sh C K R ((33, mn, 1, c, l) :: rs) ls (v1 :: st) h = (dh_wsum st ≤ 8 ∧ C mn [v1] h (fun v h2 => dh_wpB sh C K R rs ls (v.toList ++ st) h2)) := (wb_an (P := 1 ≤ (v1 :: st).length ∧ dh_wsum st ≤ 8) (o1 := dh_oC mn [v1] ls st h) rfl).trans (propext ⟨fun q => ⟨q.1.2, q.2⟩, fun q => ⟨⟨Nat.le_of_ble_eq_true (by simp only [List.length_cons]; exact Nat.ble_eq_true_of_le (by omega)), q.1⟩, q.2⟩⟩)
theorem wb_cs2 {v1 v2 : dh_V} : dh_wpB sh C K R ((33, mn, 2, c, l) :: rs) ls (v2 :: v1 :: st) h = (dh_wsum st ≤ 8 ∧ C mn [v1, v2] h (fun v h2 => dh_wpB sh C K R rs ls (v.toList ++ st) h2)) := (wb_an (P := 2 ≤ (v2 :: v1 :: st).length ∧ dh_wsum st ≤ 8) (o1 := dh_oC mn [v1, v2] ls st h) rfl).trans (propext ⟨fun q => ⟨q.1.2, q.2⟩, fun q => ⟨⟨Nat.le_of_ble_eq_true (by simp only [List.length_cons]; exact Nat.ble_eq_true_of_le (by omega)), q.1⟩, q.2⟩⟩)
theorem wb_cs3 {v1 v2 v3 : dh_V} : dh_wpB sh C K R ((33, mn, 3, c, l) :: rs) ls (v3 :: v2 :: v1 :: st) h = (dh_wsum st ≤ 8 ∧ C mn [v1, v2, v3] h (fun v h2 => dh_wpB sh C K R rs ls (v.toList ++ st) h2)) := (wb_an (P := 3 ≤ (v3 :: v2 :: v1 :: st).length ∧ dh_wsum st ≤ 8) (o1 := dh_oC mn [v1, v2, v3] ls st h) rfl).trans (propext ⟨fun q => ⟨q.1.2, q.2⟩, fun q => ⟨⟨Nat.le_of_ble_eq_true (by simp only [List.length_cons]; exact Nat.ble_eq_true_of_le (by omega)), q.1⟩, q.2⟩⟩)
theorem wb_cs4 {v1 v2 v3 v4 : dh_V} : dh_wpB sh C K R ((33, mn, 4, c, l) :: rs) ls (v4 :: v3 :: v2 :: v1 :: st) h = (dh_wsum st ≤ 8 ∧ C mn [v1, v2, v3, v4] h (fun v h2 => dh_wpB sh C K R rs ls (v.toList ++ st) h2)) := (wb_an (P := 4 ≤ (v4 :: v3 :: v2 :: v1 :: st).length ∧ dh_wsum st ≤ 8) (o1 := dh_oC mn [v1, v2, v3, v4] ls st h) rfl).trans (propext ⟨fun q => ⟨q.1.2, q.2⟩, fun q => ⟨⟨Nat.le_of_ble_eq_true (by simp only [List.length_cons]; exact Nat.ble_eq_true_of_le (by omega)), q.1⟩, q.2⟩⟩)
theorem wb_cs5 {v1 v2 v3 v4 v5 : dh_V} : dh_wpB sh C K R ((33, mn, 5, c, l) :: rs) ls (v5 :: v4 :: v3 :: v2 :: v1 :: st) h = (dh_wsum st ≤ 8 ∧ C mn [v1, v2, v3, v4, v5] h (fun v h2 => dh_wpB sh C K R rs ls (v.toList ++ st) h2)) := (wb_an (P := 5 ≤ (v5 :: v4 :: v3 :: v2 :: v1 :: st).length ∧ dh_wsum st ≤ 8) (o1 := dh_oC mn [v1, v2, v3, v4, v5] ls st h) rfl).trans (propext ⟨fun q => ⟨q.1.2, q.2⟩, fun q => ⟨⟨Nat.le_of_ble_eq_true (by simp only [List.length_cons]; exact Nat.ble_eq_true_of_le (by omega)), q.1⟩, q.2⟩⟩)
theorem wb_cs6 {v1 v2 v3 v4 v5 v6 : dh_V} : dh_wpB sh C K R ((33, mn, 6, c, l) :: rs) ls (v6 :: v5 :: v4 :: v3 :: v2 :: v1 :: st) h = (dh_wsum st ≤ 8 ∧ C mn [v1, v2, v3, v4, v5, v6] h (fun v h2 => dh_wpB sh C K R rs ls (v.toList ++ st) h2)) := (wb_an (P := 6 ≤ (v6 :: v5 :: v4 :: v3 :: v2 :: v1 :: st).length ∧ dh_wsum st ≤ 8) (o1 := dh_oC mn [v1, v2, v3, v4, v5, v6] ls st h) rfl).trans (propext ⟨fun q => ⟨q.1.2, q.2⟩, fun q => ⟨⟨Nat.le_of_ble_eq_true (by simp only [List.length_cons]; exact Nat.ble_eq_true_of_le (by omega)), q.1⟩, q.2⟩⟩)
theorem wb_cs7 {v1 v2 v3 v4 v5 v6 v7 : dh_V} : dh_wpB sh C K R ((33, mn, 7, c, l) :: rs) ls (v7 :: v6 :: v5 :: v4 :: v3 :: v2 :: v1 :: st) h = (dh_wsum st ≤ 8 ∧ C mn [v1, v2, v3, v4, v5, v6, v7] h (fun v h2 => dh_wpB sh C K R rs ls (v.toList ++ st) h2)) := (wb_an (P := 7 ≤ (v7 :: v6 :: v5 :: v4 :: v3 :: v2 :: v1 :: st).length ∧ dh_wsum st ≤ 8) (o1 := dh_oC mn [v1, v2, v3, v4, v5, v6, v7] ls st h) rfl).trans (propext ⟨fun q => ⟨q.1.2, q.2⟩, fun q => ⟨⟨Nat.le_of_ble_eq_true (by simp only [List.length_cons]; exact Nat.ble_eq_true_of_le (by omega)), q.1⟩, q.2⟩⟩)
theorem wb_cv0 : dh_wpB sh C K R ((37, mn, 1, c, l) :: rs) ls (.inr (.inr (some p)) :: st) h = ((sh p = some (0, c.toNat, 0, 0) ∧ dh_wsum st ≤ 8) ∧ C mn [.inr (.inr (some p))] h (fun v h2 => dh_wpB sh C K R rs ls (v.toList ++ st) h2)) := (wb_an (P := sh p = some (0, c.toNat, 0, 0) ∧ 1 ≤ (.inr (.inr (some p)) :: st).length ∧ dh_wsum st ≤ 8) (o1 := dh_oC mn [.inr (.inr (some p))] ls st h) rfl).trans (propext ⟨fun q => ⟨⟨q.1.1, q.1.2.2⟩, q.2⟩, fun q => ⟨⟨q.1.1, Nat.le_of_ble_eq_true (by simp only [List.length_cons]; exact Nat.ble_eq_true_of_le (by omega)), q.1.2⟩, q.2⟩⟩)
theorem wb_cv1 {v1 : dh_V} : dh_wpB sh C K R ((37, mn, 2, c, l) :: rs) ls (v1 :: .inr (.inr (some p)) :: st) h = ((sh p = some (0, c.toNat, 0, 0) ∧ dh_wsum st ≤ 8) ∧ C mn [.inr (.inr (some p)), v1] h (fun v h2 => dh_wpB sh C K R rs ls (v.toList ++ st) h2)) := (wb_an (P := sh p = some (0, c.toNat, 0, 0) ∧ 2 ≤ (v1 :: .inr (.inr (some p)) :: st).length ∧ dh_wsum st ≤ 8) (o1 := dh_oC mn [.inr (.inr (some p)), v1] ls st h) rfl).trans (propext ⟨fun q => ⟨⟨q.1.1, q.1.2.2⟩, q.2⟩, fun q => ⟨⟨q.1.1, Nat.le_of_ble_eq_true (by simp only [List.length_cons]; exact Nat.ble_eq_true_of_le (by omega)), q.1.2⟩, q.2⟩⟩)
theorem wb_cv2 {v1 v2 : dh_V} : dh_wpB sh C K R ((37, mn, 3, c, l) :: rs) ls (v2 :: v1 :: .inr (.inr (some p)) :: st) h = ((sh p = some (0, c.toNat, 0, 0) ∧ dh_wsum st ≤ 8) ∧ C mn [.inr (.inr (some p)), v1, v2] h (fun v h2 => dh_wpB sh C K R rs ls (v.toList ++ st) h2)) := (wb_an (P := sh p = some (0, c.toNat, 0, 0) ∧ 3 ≤ (v2 :: v1 :: .inr (.inr (some p)) :: st).length ∧ dh_wsum st ≤ 8) (o1 := dh_oC mn [.inr (.inr (some p)), v1, v2] ls st h) rfl).trans (propext ⟨fun q => ⟨⟨q.1.1, q.1.2.2⟩, q.2⟩, fun q => ⟨⟨q.1.1, Nat.le_of_ble_eq_true (by simp only [List.length_cons]; exact Nat.ble_eq_true_of_le (by omega)), q.1.2⟩, q.2⟩⟩)
theorem wb_cv3 {v1 v2 v3 : dh_V} : dh_wpB sh C K R ((37, mn, 4, c, l) :: rs) ls (v3 :: v2 :: v1 :: .inr (.inr (some p)) :: st) h = ((sh p = some (0, c.toNat, 0, 0) ∧ dh_wsum st ≤ 8) ∧ C mn [.inr (.inr (some p)), v1, v2, v3] h (fun v h2 => dh_wpB sh C K R rs ls (v.toList ++ st) h2)) := (wb_an (P := sh p = some (0, c.toNat, 0, 0) ∧ 4 ≤ (v3 :: v2 :: v1 :: .inr (.inr (some p)) :: st).length ∧ dh_wsum st ≤ 8) (o1 := dh_oC mn [.inr (.inr (some p)), v1, v2, v3] ls st h) rfl).trans (propext ⟨fun q => ⟨⟨q.1.1, q.1.2.2⟩, q.2⟩, fun q => ⟨⟨q.1.1, Nat.le_of_ble_eq_true (by simp only [List.length_cons]; exact Nat.ble_eq_true_of_le (by omega)), q.1.2⟩, q.2⟩⟩)
theorem wb_cv4 {v1 v2 v3 v4 : dh_V} : dh_wpB sh C K R ((37, mn, 5, c, l) :: rs) ls (v4 :: v3 :: v2 :: v1 :: .inr (.inr (some p)) :: st) h = ((sh p = some (0, c.toNat, 0, 0) ∧ dh_wsum st ≤ 8) ∧ C mn [.inr (.inr (some p)), v1, v2, v3, v4] h (fun v h2 => dh_wpB sh C K R rs ls (v.toList ++ st) h2)) := (wb_an (P := sh p = some (0, c.toNat, 0, 0) ∧ 5 ≤ (v4 :: v3 :: v2 :: v1 :: .inr (.inr (some p)) :: st).length ∧ dh_wsum st ≤ 8) (o1 := dh_oC mn [.inr (.inr (some p)), v1, v2, v3, v4] ls st h) rfl).trans (propext ⟨fun q => ⟨⟨q.1.1, q.1.2.2⟩, q.2⟩, fun q => ⟨⟨q.1.1, Nat.le_of_ble_eq_true (by simp only [List.length_cons]; exact Nat.ble_eq_true_of_le (by omega)), q.1.2⟩, q.2⟩⟩)
theorem wb_cv5 {v1 v2 v3 v4 v5 : dh_V} : dh_wpB sh C K R ((37, mn, 6, c, l) :: rs) ls (v5 :: v4 :: v3 :: v2 :: v1 :: .inr (.inr (some p)) :: st) h = ((sh p = some (0, c.toNat, 0, 0) ∧ dh_wsum st ≤ 8) ∧ C mn [.inr (.inr (some p)), v1, v2, v3, v4, v5] h (fun v h2 => dh_wpB sh C K R rs ls (v.toList ++ st) h2)) := (wb_an (P := sh p = some (0, c.toNat, 0, 0) ∧ 6 ≤ (v5 :: v4 :: v3 :: v2 :: v1 :: .inr (.inr (some p)) :: st).length ∧ dh_wsum st ≤ 8) (o1 := dh_oC mn [.inr (.inr (some p)), v1, v2, v3, v4, v5] ls st h) rfl).trans (propext ⟨fun q => ⟨⟨q.1.1, q.1.2.2⟩, q.2⟩, fun q => ⟨⟨q.1.1, Nat.le_of_ble_eq_true (by simp only [List.length_cons]; exact Nat.ble_eq_true_of_le (by omega)), q.1.2⟩, q.2⟩⟩)
theorem wb_cv6 {v1 v2 v3 v4 v5 v6 : dh_V} : dh_wpB sh C K R ((37, mn, 7, c, l) :: rs) ls (v6 :: v5 :: v4 :: v3 :: v2 :: v1 :: .inr (.inr (some p)) :: st) h = ((sh p = some (0, c.toNat, 0, 0) ∧ dh_wsum st ≤ 8) ∧ C mn [.inr (.inr (some p)), v1, v2, v3, v4, v5, v6] h (fun v h2 => dh_wpB sh C K R rs ls (v.toList ++ st) h2)) := (wb_an (P := sh p = some (0, c.toNat, 0, 0) ∧ 7 ≤ (v6 :: v5 :: v4 :: v3 :: v2 :: v1 :: .inr (.inr (some p)) :: st).length ∧ dh_wsum st ≤ 8) (o1 := dh_oC mn [.inr (.inr (some p)), v1, v2, v3, v4, v5, v6] ls st h) rfl).trans (propext ⟨fun q => ⟨⟨q.1.1, q.1.2.2⟩, q.2⟩, fun q => ⟨⟨q.1.1, Nat.le_of_ble_eq_true (by simp only [List.length_cons]; exact Nat.ble_eq_true_of_le (by omega)), q.1.2⟩, q.2⟩⟩)
theorem wb_m0 : dh_wpB sh C K R ((38, 0, b, c, l) :: rs) ls (.inl y :: .inl x :: st) h = (dh_wsum st ≤ 8 ∧ dh_wpB sh C K R rs ls (.inl (if x < y then y else x) :: st) h) := (wb_an (o1 := dh_oN ls (.inl (if x < y then y else x) :: st) h) rfl).trans rfl
theorem wb_m1 : dh_wpB sh C K R ((38, 1, b, c, l) :: rs) ls (.inl y :: .inl x :: st) h = (dh_wsum st ≤ 8 ∧ dh_wpB sh C K R rs ls (.inl (if y < x then y else x) :: st) h) := (wb_an (o1 := dh_oN ls (.inl (if y < x then y else x) :: st) h) rfl).trans rfl
theorem wb_m2 : dh_wpB sh C K R ((38, 2, b, c, l) :: rs) ls (.inr (.inl w) :: .inr (.inl u) :: st) h = (dh_wsum st ≤ 8 ∧ dh_wpB sh C K R rs ls (.inr (.inl (if w.toInt < u.toInt then u else w)) :: st) h) := (wb_an (o1 := dh_oN ls (.inr (.inl (if w.toInt < u.toInt then u else w)) :: st) h) rfl).trans rfl
theorem wb_m3 : dh_wpB sh C K R ((38, 3, b, c, l) :: rs) ls (.inr (.inl w) :: .inr (.inl u) :: st) h = (dh_wsum st ≤ 8 ∧ dh_wpB sh C K R rs ls (.inr (.inl (if w.toInt < u.toInt then w else u)) :: st) h) := (wb_an (o1 := dh_oN ls (.inr (.inl (if w.toInt < u.toInt then w else u)) :: st) h) rfl).trans rfl
theorem wb_copy {n dp sp : Int} {n0 n1 e0 f0 e1 f1 : Nat} (h0 : sh p = some (1, n0, e0, f0)) (h1 : sh q = some (1, n1, e1, f1)) : dh_wpB sh C K R ((36, a, b, c, l) :: rs) ls (.inl n :: .inl dp :: .inr (.inr (some q)) :: .inl sp :: .inr (.inr (some p)) :: st) h = ((0 ≤ sp ∧ 0 ≤ dp ∧ 0 ≤ n ∧ sp + n ≤ n0 ∧ dp + n ≤ n1 ∧ dh_wsum st ≤ 8) ∧ dh_wpB sh C K R rs ls st (dh_ua h q (fun k => if dp.toNat ≤ k ∧ k < dp.toNat + n.toNat then h.1 p (sp.toNat + (k - dp.toNat)) else h.1 q k))) := by
  refine (wb_an (P := 0 ≤ sp ∧ 0 ≤ dp ∧ 0 ≤ n ∧ sp + n ≤ n0 ∧ dp + n ≤ n1 ∧ dh_wsum st ≤ 8) (o1 := dh_oN ls st (dh_ua h q (fun k => if dp.toNat ≤ k ∧ k < dp.toNat + n.toNat then h.1 p (sp.toNat + (k - dp.toNat)) else h.1 q k))) ?_).trans rfl
  show (match sh p, sh q with
      | some (1, n0, _, _), some (1, n1, _, _) => if 0 ≤ sp ∧ 0 ≤ dp ∧ 0 ≤ n ∧ sp + n ≤ n0 ∧ dp + n ≤ n1 ∧ dh_wsum st ≤ 8 then dh_oN ls st (dh_ua h q (fun k => if dp.toNat ≤ k ∧ k < dp.toNat + n.toNat then h.1 p (sp.toNat + (k - dp.toNat)) else h.1 q k)) else none
      | _, _ => none) = _
  rw [h0, h1]
  rfl
theorem sw_nil {P : Nat → Prop} : P (dh_sw [] b x) = P b := id rfl
theorem sw_cons {P : Nat → Prop} {kk bb : Nat} {ki : Int} : P (dh_sw ((ki, bb) :: l) b x) = if x = ki then P bb else P (dh_sw l b x) := by
  show P (if x = ki then bb else dh_sw l b x) = _
  split <;> rfl
theorem ws_0 : dh_wsum [] = 0 := id rfl
theorem ws_i : dh_wsum (.inl x :: st) = 1 + dh_wsum st := id rfl
theorem ws_l : dh_wsum (.inr (.inl u) :: st) = 2 + dh_wsum st := id rfl
theorem ws_r : dh_wsum (.inr (.inr z) :: st) = 1 + dh_wsum st := id rfl
theorem dh_wp_eq (hC : dh_mono C) {bl : Nat → List dh_RI} {Q : Option dh_V → dh_AH → Prop} {lst : List dh_RI} (hb : bl b = lst) : dh_wp sh C bl Q b ls st h = dh_wpB sh C (dh_wp sh C bl Q) Q lst ls st h := by
  subst hb
  refine propext ⟨fun q => ?_, fun q => dh_wp_go hC q⟩
  refine q (fun b ls st h => dh_wpB sh C (dh_wp sh C bl Q) Q (bl b) ls st h) (fun b ls st h k => ?_)
  exact dh_wpB_mono hC (fun _ _ _ _ x => dh_wp_go hC x) (fun _ _ x => x) _ _ _ _ k
end WB
