/-! ===== numbers: the machine's and the abstract machine's ===== -/
theorem dh_n_add (x y : Int32) : (x + y).toInt = dh_wr (x.toInt + y.toInt) := Int32.toInt_add x y
theorem dh_n_sub (x y : Int32) : (x - y).toInt = dh_wr (x.toInt - y.toInt) := Int32.toInt_sub x y
theorem dh_n_mul (x y : Int32) : (x * y).toInt = dh_wr (x.toInt * y.toInt) := Int32.toInt_mul x y
theorem dh_n_div (x y : Int32) : (x / y).toInt = dh_wr (x.toInt.tdiv y.toInt) := Int32.toInt_div x y
theorem dh_n_mod (x y : Int32) : (x % y).toInt = x.toInt.tmod y.toInt := Int32.toInt_mod x y
theorem dh_n_of {n : Int} (h1 : -2147483648 ≤ n) (h2 : n < 2147483648) : (Int32.ofInt n).toInt = n := by
  rw [Int32.toInt_ofInt]; exact dh_wr_id h1 h2
theorem dh_n_8 {n : Int} (h1 : -128 ≤ n) (h2 : n < 128) : (Int8.ofInt n).toInt32.toInt = n := by
  rw [Int8.toInt_toInt32, Int8.toInt_ofInt]
  show Int.bmod n 256 = n
  unfold Int.bmod
  simp only []
  split <;> omega
theorem dh_n_16 {n : Int} (h1 : -32768 ≤ n) (h2 : n < 32768) : (Int16.ofInt n).toInt32.toInt = n := by
  rw [Int16.toInt_toInt32, Int16.toInt_ofInt]
  show Int.bmod n 65536 = n
  unfold Int.bmod
  simp only []
  split <;> omega
theorem dh_n_0 {x : Int32} : x.toInt = 0 ↔ x = 0 := ⟨fun h => Int32.toInt_inj.mp (by rw [h]; rfl), fun h => by rw [h]; rfl⟩
theorem dh_n_1 {x : Int32} : x.toInt = 1 ↔ x = 1 := ⟨fun h => Int32.toInt_inj.mp (by rw [h]; rfl), fun h => by rw [h]; rfl⟩
theorem dh_n_nn {x : Int32} (h : 0 ≤ x.toInt) : x.toNatClampNeg = x.toInt.toNat := rfl
theorem dh_n_in {x : Int32} {n : Nat} (h1 : 0 ≤ x.toInt) (h2 : x.toInt < n) : vp_in x n := vp_in_iff.mpr ⟨h1, h2⟩
theorem dh_n_nlt0 {x : Int32} (h : 0 ≤ x.toInt) : ¬ x < 0 := by
  rw [Int32.lt_iff_toInt_lt]
  show ¬ x.toInt < 0
  omega
theorem dh_i2l (x : Int32) : x.toInt64.toBitVec = BitVec.ofInt 64 x.toInt := rfl
theorem dh_l2i (x : Int64) : x.toInt32.toInt = dh_wr x.toBitVec.toInt := Int64.toInt_toInt32 x
theorem dh_i2b (x : Int32) : x.toInt8.toInt32.toInt = Int.bmod x.toInt 256 := by
  rw [Int8.toInt_toInt32, Int32.toInt_toInt8]
theorem dh_cmp (x y : Int64) : (lg_cmp x y).toInt = (if x.toBitVec.toInt < y.toBitVec.toInt then -1 else if x.toBitVec = y.toBitVec then 0 else 1) := by
  have e1 : (x.toBitVec = y.toBitVec) ↔ x = y := ⟨fun h => Int64.toBitVec_inj.mp h, fun h => by rw [h]⟩
  have e2 : x = y ↔ x.toBitVec.toInt = y.toBitVec.toInt := ⟨fun h => by rw [h], fun h => Int64.toInt_inj.mp h⟩
  have e3 : (y < x) ↔ y.toBitVec.toInt < x.toBitVec.toInt := Int64.lt_iff_toInt_lt
  unfold lg_cmp
  by_cases q1 : y < x
  · have q1' := e3.mp q1
    have q2 : ¬ x.toBitVec = y.toBitVec := fun h => by rw [h] at q1'; omega
    rw [if_pos q1, if_neg (show ¬ x.toBitVec.toInt < y.toBitVec.toInt by omega), if_neg q2]
    rfl
  · have q1' : ¬ y.toBitVec.toInt < x.toBitVec.toInt := fun h => q1 (e3.mpr h)
    by_cases q2 : x = y
    · rw [if_neg q1, if_pos q2, if_neg (by rw [q2]; omega), if_pos (e1.mpr q2)]
      rfl
    · have q2' : ¬ x.toBitVec.toInt = y.toBitVec.toInt := fun h => q2 (e2.mpr h)
      rw [if_neg q1, if_neg q2, if_pos (by omega)]
      rfl
theorem dh_sh63 (y : Int32) : ((y.toInt64 &&& 63).toBitVec.smod 64).toNat = (y.toInt % 64).toNat := by
  have h1 : (y.toInt64 &&& 63).toBitVec.toNat = (y.toInt % 64).toNat := by
    show (y.toInt64.toBitVec &&& 63#64).toNat = _
    rw [BitVec.toNat_and, dh_i2l, BitVec.toNat_ofInt]
    show (y.toInt % (2 ^ 64 : Nat)).toNat &&& 63 = _
    rw [show (63 : Nat) = 2 ^ 6 - 1 from rfl, Nat.and_two_pow_sub_one_eq_mod]
    omega
  have h2 : (y.toInt64 &&& 63).toBitVec.toNat < 64 := by rw [h1]; omega
  rw [← h1]
  generalize (y.toInt64 &&& 63).toBitVec = z at h2
  have hz : z.toInt = z.toNat := BitVec.toInt_eq_toNat_of_lt (by omega)
  have h3 : (z.smod 64).toInt = z.toNat := by
    rw [BitVec.toInt_smod, hz]
    show (z.toNat : Int).fmod 64 = _
    rw [Int.fmod_eq_emod_of_nonneg _ (by omega)]
    omega
  have h4 : (z.smod 64) = z := BitVec.eq_of_toInt_eq (by rw [h3, hz])
  rw [h4]
theorem dh_lshl (x : Int64) (y : Int32) : (x <<< (y.toInt64 &&& 63)).toBitVec = x.toBitVec <<< (y.toInt % 64).toNat := by
  rw [← dh_sh63]
  rfl
theorem dh_lshr (x : Int64) (y : Int32) : (x >>> (y.toInt64 &&& 63)).toBitVec = x.toBitVec.sshiftRight (y.toInt % 64).toNat := by
  rw [← dh_sh63]
  rfl
theorem dh_lushr (x : Int64) (y : Int32) : (x.toUInt64 >>> (y.toInt64.toUInt64 &&& Int64.toUInt64 63)).toInt64.toBitVec = x.toBitVec >>> (y.toInt % 64).toNat := by
  have h1 : (y.toInt64 &&& 63).toBitVec.toNat = (y.toInt % 64).toNat := by
    show (y.toInt64.toBitVec &&& 63#64).toNat = _
    rw [BitVec.toNat_and, dh_i2l, BitVec.toNat_ofInt]
    show (y.toInt % (2 ^ 64 : Nat)).toNat &&& 63 = _
    rw [show (63 : Nat) = 2 ^ 6 - 1 from rfl, Nat.and_two_pow_sub_one_eq_mod]
    omega
  show x.toBitVec >>> ((y.toInt64 &&& 63).toBitVec % 64#64) = _
  rw [BitVec.ushiftRight_eq', BitVec.toNat_umod]
  show x.toBitVec >>> ((y.toInt64 &&& 63).toBitVec.toNat % 64) = _
  rw [h1]
  congr 1
  omega
/-! ===== values, stacks, locals ===== -/
def dh_rv (adr : Nat → Nat) (x : Value) (v : dh_V) : Prop := match v with
  | .inl i => ∃ n : Int32, x = .int n ∧ n.toInt = i
  | .inr (.inl b) => ∃ n : Int64, x = .long n ∧ n.toBitVec = b
  | .inr (.inr (some p)) => x = .ref (adr p)
  | .inr (.inr none) => x = .null
def dh_rs (adr : Nat → Nat) : List Value → List dh_V → Prop
  | [], [] => True
  | x :: xs, v :: vs => dh_rv adr x v ∧ dh_rs adr xs vs
  | _, _ => False
def dh_ro (adr : Nat → Nat) : Option Value → Option dh_V → Prop
  | none, none => True
  | some x, some v => dh_rv adr x v
  | _, _ => False
def dh_rl (adr : Nat → Nat) (ls : Array Slot) (nL : Nat) (al : dh_LS) : Prop := ls.size = nL ∧ lv_wf ls ∧ ∀ k v, dh_lget al k = some v → ∃ x, ls[k]? = some (.val x) ∧ dh_rv adr x v
theorem dh_rs_cons {adr : Nat → Nat} {xs : List Value} {v : dh_V} {vs : List dh_V} (h : dh_rs adr xs (v :: vs)) : ∃ x xs', xs = x :: xs' ∧ dh_rv adr x v ∧ dh_rs adr xs' vs := by
  cases xs with
  | nil => exact h.elim
  | cons x xs => exact ⟨x, xs, rfl, h.1, h.2⟩
theorem dh_rs_nil {adr : Nat → Nat} {xs : List Value} (h : dh_rs adr xs []) : xs = [] := by
  cases xs with
  | nil => rfl
  | cons x xs => exact h.elim
theorem dh_rs_i {adr : Nat → Nat} {xs : List Value} {i : Int} {vs : List dh_V} (h : dh_rs adr xs (.inl i :: vs)) : ∃ (n : Int32) (xs' : List Value), xs = .int n :: xs' ∧ n.toInt = i ∧ dh_rs adr xs' vs := by
  obtain ⟨x, xs', rfl, ⟨n, rfl, e⟩, h2⟩ := dh_rs_cons h
  exact ⟨n, xs', rfl, e, h2⟩
theorem dh_rs_l {adr : Nat → Nat} {xs : List Value} {b : BitVec 64} {vs : List dh_V} (h : dh_rs adr xs (.inr (.inl b) :: vs)) : ∃ (n : Int64) (xs' : List Value), xs = .long n :: xs' ∧ n.toBitVec = b ∧ dh_rs adr xs' vs := by
  obtain ⟨x, xs', rfl, ⟨n, rfl, e⟩, h2⟩ := dh_rs_cons h
  exact ⟨n, xs', rfl, e, h2⟩
theorem dh_rs_r {adr : Nat → Nat} {xs : List Value} {p : Nat} {vs : List dh_V} (h : dh_rs adr xs (.inr (.inr (some p)) :: vs)) : ∃ (xs' : List Value), xs = .ref (adr p) :: xs' ∧ dh_rs adr xs' vs := by
  obtain ⟨x, xs', rfl, e, h2⟩ := dh_rs_cons h
  cases e
  exact ⟨xs', rfl, h2⟩
theorem dh_rs_n {adr : Nat → Nat} {xs : List Value} {vs : List dh_V} (h : dh_rs adr xs (.inr (.inr none) :: vs)) : ∃ (xs' : List Value), xs = .null :: xs' ∧ dh_rs adr xs' vs := by
  obtain ⟨x, xs', rfl, e, h2⟩ := dh_rs_cons h
  cases e
  exact ⟨xs', rfl, h2⟩
theorem dh_rs_len {adr : Nat → Nat} : ∀ {xs : List Value} {vs : List dh_V}, dh_rs adr xs vs → xs.length = vs.length
  | [], [], _ => rfl
  | _ :: xs, _ :: vs, h => by simp [dh_rs_len h.2]
  | [], _ :: _, h => h.elim
  | _ :: _, [], h => h.elim
theorem dh_rs_app {adr : Nat → Nat} : ∀ {xs : List Value} {vs : List dh_V} {ys : List Value} {ws : List dh_V}, dh_rs adr xs vs → dh_rs adr ys ws → dh_rs adr (xs ++ ys) (vs ++ ws)
  | [], [], _, _, _, h => h
  | _ :: _, _ :: _, _, _, h, h2 => ⟨h.1, dh_rs_app h.2 h2⟩
  | [], _ :: _, _, _, h, _ => h.elim
  | _ :: _, [], _, _, h, _ => h.elim
theorem dh_rs_take {adr : Nat → Nat} : ∀ {xs : List Value} {vs : List dh_V} (n : Nat), dh_rs adr xs vs → dh_rs adr (xs.take n) (vs.take n)
  | _, _, 0, _ => by simp [dh_rs]
  | [], [], n + 1, _ => by simp [dh_rs]
  | _ :: _, _ :: _, n + 1, h => ⟨h.1, dh_rs_take n h.2⟩
  | [], _ :: _, _ + 1, h => h.elim
  | _ :: _, [], _ + 1, h => h.elim
theorem dh_rs_drop {adr : Nat → Nat} : ∀ {xs : List Value} {vs : List dh_V} (n : Nat), dh_rs adr xs vs → dh_rs adr (xs.drop n) (vs.drop n)
  | _, _, 0, h => by simpa using h
  | [], [], n + 1, _ => by simp [dh_rs]
  | _ :: _, _ :: _, n + 1, h => dh_rs_drop n h.2
  | [], _ :: _, _ + 1, h => h.elim
  | _ :: _, [], _ + 1, h => h.elim
theorem dh_rs_rev {adr : Nat → Nat} : ∀ {xs : List Value} {vs : List dh_V}, dh_rs adr xs vs → dh_rs adr xs.reverse vs.reverse
  | [], [], _ => by simp [dh_rs]
  | _ :: _, _ :: _, h => by
    simp only [List.reverse_cons]
    exact dh_rs_app (dh_rs_rev h.2) ⟨h.1, trivial⟩
  | [], _ :: _, h => h.elim
  | _ :: _, [], h => h.elim
theorem dh_rs_sum {adr : Nat → Nat} : ∀ {xs : List Value} {vs : List dh_V}, dh_rs adr xs vs → (xs.map fun v => v.category).sum = dh_wsum vs
  | [], [], _ => rfl
  | x :: xs, .inl i :: vs, h => by
    obtain ⟨⟨n, rfl, _⟩, h2⟩ := h
    simp only [List.map_cons, List.sum_cons, dh_rs_sum h2, dh_wsum]
    rfl
  | x :: xs, .inr (.inl b) :: vs, h => by
    obtain ⟨⟨n, rfl, _⟩, h2⟩ := h
    simp only [List.map_cons, List.sum_cons, dh_rs_sum h2, dh_wsum]
    rfl
  | x :: xs, .inr (.inr (some p)) :: vs, h => by
    obtain ⟨e, h2⟩ := h
    cases e
    simp only [List.map_cons, List.sum_cons, dh_rs_sum h2, dh_wsum]
    rfl
  | x :: xs, .inr (.inr none) :: vs, h => by
    obtain ⟨e, h2⟩ := h
    cases e
    simp only [List.map_cons, List.sum_cons, dh_rs_sum h2, dh_wsum]
    rfl
  | [], _ :: _, h => h.elim
  | _ :: _, [], h => h.elim
theorem dh_rv_cat {adr : Nat → Nat} {x : Value} {v : dh_V} (h : dh_rv adr x v) (hc : x.category = 2) : dh_isL (some v) = true := by
  match v, h with
  | .inl i, ⟨n, e, _⟩ => rw [e] at hc; cases hc
  | .inr (.inl b), _ => rfl
  | .inr (.inr (some p)), e => cases e; cases hc
  | .inr (.inr none), e => cases e; cases hc
theorem dh_lget_lset : ∀ {ls : dh_LS} {i k : Nat} {x : Option dh_V} {v : dh_V}, dh_lget (dh_lset ls i x) k = some v → (k = i ∧ x = some v) ∨ (k ≠ i ∧ dh_lget ls k = some v)
  | [], _, _, _, _, h => by simp [dh_lset, dh_lget] at h
  | a :: t, 0, 0, x, v, h => Or.inl ⟨rfl, h⟩
  | a :: t, 0, k + 1, x, v, h => Or.inr ⟨by omega, h⟩
  | a :: t, i + 1, 0, x, v, h => Or.inr ⟨by omega, h⟩
  | a :: t, i + 1, k + 1, x, v, h => by
    rcases dh_lget_lset (ls := t) (i := i) (k := k) h with ⟨e, h⟩ | ⟨e, h⟩
    · exact Or.inl ⟨by omega, h⟩
    · exact Or.inr ⟨by omega, h⟩
theorem dh_lget_kill {ls : dh_LS} {i k : Nat} {v : dh_V} (h : dh_lget (dh_kill ls i) k = some v) : dh_lget ls k = some v ∧ ¬ (k + 1 = i ∧ dh_isL (some v) = true) := by
  cases i with
  | zero => exact ⟨h, by omega⟩
  | succ n =>
    simp only [dh_kill] at h
    split at h
    · rcases dh_lget_lset h with ⟨_, e⟩ | ⟨e, h⟩
      · cases e
      · exact ⟨h, by omega⟩
    · rename_i hn
      refine ⟨h, fun ⟨e, q⟩ => ?_⟩
      have : k = n := by omega
      subst this
      rw [h] at hn
      exact hn q
/-- all values that the locals hold -/
def dh_all (ls : Array Slot) : List (Nat × Value) := (List.range ls.size).filterMap (fun k => match (ls[k]? : Option Slot) with
  | some (Slot.val v) => some (k, v)
  | _ => none)
theorem dh_all_mem {ls : Array Slot} {k : Nat} {x : Value} (h : ls[k]? = some (.val x)) : (k, x) ∈ dh_all ls := by
  unfold dh_all
  refine List.mem_filterMap.mpr ⟨k, List.mem_range.mpr (lv_lt h), ?_⟩
  rw [h]
theorem dh_all_has {ls : Array Slot} {nL : Nat} (h1 : ls.size = nL) (h2 : lv_wf ls) : lv_has ls nL (dh_all ls) := by
  refine ⟨h1, h2, fun q hq => ?_⟩
  obtain ⟨k, -, hk⟩ := List.mem_filterMap.mp hq
  cases e : ls[k]? with
  | none => rw [e] at hk; cases hk
  | some sl =>
    rw [e] at hk
    cases sl with
    | unset => cases hk
    | second => cases hk
    | val v => cases hk; exact e
theorem dh_rl_st1 {adr : Nat → Nat} {ls ls' : Array Slot} {nL : Nat} {al : dh_LS} {i : Nat} {x : Value} {v : dh_V} (h : dh_rl adr ls nL al) (hx : dh_rv adr x v) (hl : lv_has ls' nL ((i, x) :: (dh_all ls).filter (fun q => !(q.1 == i) && !(q.1 + 1 == i && q.2.category == 2)))) : dh_rl adr ls' nL (dh_st1 al i v) := by
  refine ⟨hl.1, hl.2.1, fun k w hk => ?_⟩
  unfold dh_st1 at hk
  rcases dh_lget_lset hk with ⟨rfl, e⟩ | ⟨hne, hk⟩
  · cases e
    exact ⟨x, hl.2.2 (k, x) List.mem_cons_self, hx⟩
  · obtain ⟨hk, hno⟩ := dh_lget_kill hk
    obtain ⟨y, hy, hr⟩ := h.2.2 k w hk
    refine ⟨y, hl.2.2 (k, y) (List.mem_cons_of_mem _ (List.mem_filter.mpr ⟨dh_all_mem hy, ?_⟩)), hr⟩
    have h1 : (k == i) = false := by simpa using hne
    have h2 : (k + 1 == i && y.category == 2) = false := by
      cases hq : (k + 1 == i && y.category == 2) with
      | false => rfl
      | true =>
        simp only [Bool.and_eq_true, beq_iff_eq] at hq
        exact absurd ⟨hq.1, dh_rv_cat hr hq.2⟩ hno
    show (!(k == i) && !(k + 1 == i && y.category == 2)) = true
    rw [h1, h2]
    rfl
theorem dh_rl_st2 {adr : Nat → Nat} {ls ls' : Array Slot} {nL : Nat} {al : dh_LS} {i : Nat} {x : Value} {v : dh_V} (h : dh_rl adr ls nL al) (hx : dh_rv adr x v) (hl : lv_has ls' nL ((i, x) :: (dh_all ls).filter (fun q => !(q.1 == i) && (!(q.1 == i + 1) && !(q.1 + 1 == i && q.2.category == 2))))) : dh_rl adr ls' nL (dh_st2 al i v) := by
  refine ⟨hl.1, hl.2.1, fun k w hk => ?_⟩
  unfold dh_st2 at hk
  rcases dh_lget_lset hk with ⟨rfl, e⟩ | ⟨hne, hk⟩
  · cases e
    exact ⟨x, hl.2.2 (k, x) List.mem_cons_self, hx⟩
  · rcases dh_lget_lset hk with ⟨_, e⟩ | ⟨hne2, hk⟩
    · cases e
    · obtain ⟨hk, hno⟩ := dh_lget_kill hk
      obtain ⟨y, hy, hr⟩ := h.2.2 k w hk
      refine ⟨y, hl.2.2 (k, y) (List.mem_cons_of_mem _ (List.mem_filter.mpr ⟨dh_all_mem hy, ?_⟩)), hr⟩
      have h1 : (k == i) = false := by simpa using hne
      have h3 : (k == i + 1) = false := by simpa using hne2
      have h2 : (k + 1 == i && y.category == 2) = false := by
        cases hq : (k + 1 == i && y.category == 2) with
        | false => rfl
        | true =>
          simp only [Bool.and_eq_true, beq_iff_eq] at hq
          exact absurd ⟨hq.1, dh_rv_cat hr hq.2⟩ hno
      show (!(k == i) && (!(k == i + 1) && !(k + 1 == i && y.category == 2))) = true
      rw [h1, h2, h3]
      rfl
theorem dh_en_at {adr : Nat → Nat} : ∀ {ra : List Value} {as : List dh_V} (o m k : Nat) {v : dh_V}, dh_rs adr ra as → dh_lget (dh_sl as ++ List.replicate m none) k = some v → ∃ x, (k + o, x) ∈ lv_args o ra ∧ dh_rv adr x v
  | [], [], o, m, k, v, _, h => by
    exfalso
    simp only [dh_sl, List.nil_append] at h
    induction m generalizing k with
    | zero => simp [dh_lget] at h
    | succ m ih =>
      cases k with
      | zero => simp [List.replicate_succ, dh_lget] at h
      | succ k => exact ih k (by simpa [List.replicate_succ, dh_lget] using h)
  | x :: ra, .inl i :: as, o, m, k, v, h, hk => by
    obtain ⟨⟨n, rfl, e⟩, h2⟩ := h
    cases k with
    | zero =>
      simp only [dh_sl, List.cons_append, dh_lget, Option.some.injEq] at hk
      subst hk
      exact ⟨.int n, by simp [lv_args], ⟨n, rfl, e⟩⟩
    | succ k =>
      simp only [dh_sl, List.cons_append, dh_lget] at hk
      obtain ⟨y, hy, hr⟩ := dh_en_at (o + 1) m k h2 hk
      exact ⟨y, List.mem_cons_of_mem _ (by simpa [Value.category, Nat.add_assoc, Nat.add_comm 1] using hy), hr⟩
  | x :: ra, .inr (.inl b) :: as, o, m, k, v, h, hk => by
    obtain ⟨⟨n, rfl, e⟩, h2⟩ := h
    match k, hk with
    | 0, hk =>
      simp only [dh_sl, List.cons_append, dh_lget, Option.some.injEq] at hk
      subst hk
      exact ⟨.long n, by simp [lv_args], ⟨n, rfl, e⟩⟩
    | 1, hk => simp [dh_sl, dh_lget] at hk
    | k + 2, hk =>
      simp only [dh_sl, List.cons_append, dh_lget] at hk
      obtain ⟨y, hy, hr⟩ := dh_en_at (o + 2) m k h2 hk
      exact ⟨y, List.mem_cons_of_mem _ (by simpa [Value.category, Nat.add_assoc, Nat.add_comm 2] using hy), hr⟩
  | x :: ra, .inr (.inr w) :: as, o, m, k, v, h, hk => by
    obtain ⟨h1, h2⟩ := h
    have hc : ¬ x.category = 2 := fun q => by
      have := dh_rv_cat h1 q
      simp [dh_isL] at this
    cases k with
    | zero =>
      simp only [dh_sl, List.cons_append, dh_lget, Option.some.injEq] at hk
      subst hk
      exact ⟨x, by simp [lv_args], h1⟩
    | succ k =>
      simp only [dh_sl, List.cons_append, dh_lget] at hk
      obtain ⟨y, hy, hr⟩ := dh_en_at (o + 1) m k h2 hk
      exact ⟨y, List.mem_cons_of_mem _ (by simpa [hc, Nat.add_assoc, Nat.add_comm 1] using hy), hr⟩
  | [], _ :: _, _, _, _, _, h, _ => h.elim
  | _ :: _, [], _, _, _, _, h, _ => h.elim
theorem dh_sl_len {adr : Nat → Nat} : ∀ {ra : List Value} {as : List dh_V}, dh_rs adr ra as → (lg_sl ra).length = (dh_sl as).length
  | [], [], _ => rfl
  | x :: ra, .inl i :: as, h => by
    obtain ⟨⟨n, rfl, e⟩, h2⟩ := h
    have := dh_sl_len h2
    simp only [lg_sl, List.flatMap_cons, List.length_append, dh_sl, List.length_cons] at this ⊢
    rw [if_neg (show ¬ (Value.int n).category = 2 from (by show ¬ (1 : Nat) = 2; decide)), this]
    simp only [List.length_cons, List.length_nil]
    omega
  | x :: ra, .inr (.inl b) :: as, h => by
    obtain ⟨⟨n, rfl, e⟩, h2⟩ := h
    have := dh_sl_len h2
    simp only [lg_sl, List.flatMap_cons, List.length_append, dh_sl, List.length_cons] at this ⊢
    rw [if_pos (show (Value.long n).category = 2 from rfl), this]
    simp only [List.length_cons, List.length_nil]
    omega
  | x :: ra, .inr (.inr w) :: as, h => by
    obtain ⟨h1, h2⟩ := h
    have hc : ¬ x.category = 2 := fun q => by
      have := dh_rv_cat h1 q
      simp [dh_isL] at this
    have := dh_sl_len h2
    simp only [lg_sl, List.flatMap_cons, List.length_append, dh_sl, List.length_cons] at this ⊢
    rw [if_neg hc, this]
    simp only [List.length_cons, List.length_nil]
    omega
  | [], _ :: _, h => h.elim
  | _ :: _, [], h => h.elim
theorem dh_rl_en {adr : Nat → Nat} {ra : List Value} {as : List dh_V} {n : Nat} (h : dh_rs adr ra as) (hn : (dh_sl as).length ≤ n) : dh_rl adr ((lg_sl ra ++ List.replicate (n - (lg_sl ra).length) Slot.unset).toArray) n (dh_en n as) := by
  have hl := lv_entry ra (n := n) (by rw [dh_sl_len h]; exact hn)
  refine ⟨hl.1, hl.2.1, fun k v hk => ?_⟩
  obtain ⟨x, hx, hr⟩ := dh_en_at 0 _ k h hk
  exact ⟨x, hl.2.2 (k, x) hx, hr⟩
