/-! ===== THE ABSTRACT MACHINE: ints are integers, longs are 64 bits, a reference is a place of the fixed world (part 03: dh_shl), the heap two functions (place, slot) ===== -/
abbrev dh_V : Type := Int ⊕ (BitVec 64 ⊕ Option Nat)
abbrev dh_LS : Type := List (Option dh_V)
abbrev dh_AH : Type := (Nat → Nat → Int) × (Nat → Nat → BitVec 64)
/-- what a step comes to: on with the next, a jump to a block, a return, a call -/
abbrev dh_O : Type := (dh_LS × List dh_V × dh_AH) ⊕ ((Nat × dh_LS × List dh_V × dh_AH) ⊕ ((Option dh_V × dh_AH) ⊕ (Nat × List dh_V × dh_LS × List dh_V × dh_AH)))
abbrev dh_oN (ls : dh_LS) (st : List dh_V) (h : dh_AH) : Option dh_O := some (.inl (ls, st, h))
abbrev dh_oJ (b : Nat) (ls : dh_LS) (st : List dh_V) (h : dh_AH) : Option dh_O := some (.inr (.inl (b, ls, st, h)))
abbrev dh_oR (v : Option dh_V) (h : dh_AH) : Option dh_O := some (.inr (.inr (.inl (v, h))))
abbrev dh_oC (mn : Nat) (as : List dh_V) (ls : dh_LS) (st : List dh_V) (h : dh_AH) : Option dh_O := some (.inr (.inr (.inr (mn, as, ls, st, h))))
/-- 32 bits -/
def dh_wr (x : Int) : Int := Int.bmod x 4294967296
def dh_lget : dh_LS → Nat → Option dh_V
  | [], _ => none
  | a :: _, 0 => a
  | _ :: t, n + 1 => dh_lget t n
def dh_lset : dh_LS → Nat → Option dh_V → dh_LS
  | [], _, _ => []
  | _ :: t, 0, v => v :: t
  | a :: t, n + 1, v => a :: dh_lset t n v
def dh_isL : Option dh_V → Bool
  | some (.inr (.inl _)) => true
  | _ => false
/-- a long that ends where something is stored is gone -/
def dh_kill (ls : dh_LS) : Nat → dh_LS
  | 0 => ls
  | n + 1 => if dh_isL (dh_lget ls n) then dh_lset ls n none else ls
def dh_st1 (ls : dh_LS) (k : Nat) (v : dh_V) : dh_LS := dh_lset (dh_kill ls k) k (some v)
def dh_st2 (ls : dh_LS) (k : Nat) (v : dh_V) : dh_LS := dh_lset (dh_lset (dh_kill ls k) (k + 1) none) k (some v)
def dh_iop (a : Nat) (x y : Int) : Option Int :=
  match a with
  | 0 => some (dh_wr (x + y))
  | 1 => some (dh_wr (x - y))
  | 2 => some (dh_wr (x * y))
  | 3 => if y = 0 then none else some (dh_wr (x.tdiv y))
  | 4 => if y = 0 then none else some (x.tmod y)
  | 5 => some (Int32.ofInt x &&& Int32.ofInt y).toInt
  | 6 => some (Int32.ofInt x ||| Int32.ofInt y).toInt
  | 7 => some (Int32.ofInt x <<< (Int32.ofInt y &&& 31)).toInt
  | 8 => some (Int32.ofInt x >>> (Int32.ofInt y &&& 31)).toInt
  | 9 => some ((Int32.ofInt x).toUInt32 >>> ((Int32.ofInt y).toUInt32 &&& Int32.toUInt32 31)).toInt32.toInt
  | _ => none
def dh_lop (a : Nat) (x y : BitVec 64) : Option (BitVec 64) :=
  match a with
  | 0 => some (x + y)
  | 1 => some (x - y)
  | 2 => some (x * y)
  | 3 => if y = 0 then none else some (x.sdiv y)
  | 4 => if y = 0 then none else some (x.srem y)
  | 5 => some (x &&& y)
  | 6 => some (x ||| y)
  | _ => none
def dh_lsh (a : Nat) (x : BitVec 64) (y : Int) : Option (BitVec 64) :=
  match a with
  | 0 => some (x <<< (y % 64).toNat)
  | 1 => some (x.sshiftRight (y % 64).toNat)
  | 2 => some (x >>> (y % 64).toNat)
  | _ => none
def dh_cnd (a : Nat) (x y : Int) : Bool :=
  match a with
  | 0 => decide (x = y)
  | 1 => decide (x ≠ y)
  | 2 => decide (x < y)
  | 3 => decide (y ≤ x)
  | 4 => decide (y < x)
  | _ => decide (x ≤ y)
def dh_sw : List (Int × Nat) → Nat → Int → Nat
  | [], d, _ => d
  | (k, b) :: t, d, x => if x = k then b else dh_sw t d x
def dh_wsum : List dh_V → Nat
  | [] => 0
  | .inr (.inl _) :: t => 2 + dh_wsum t
  | _ :: t => 1 + dh_wsum t
/-- a place's slot gets a new int, long; an array of ints gets new contents -/
def dh_ui (h : dh_AH) (p k : Nat) (v : Int) : dh_AH := (fun p' k' => if p' = p ∧ k' = k then v else h.1 p' k', h.2)
def dh_ul (h : dh_AH) (p k : Nat) (v : BitVec 64) : dh_AH := (h.1, fun p' k' => if p' = p ∧ k' = k then v else h.2 p' k')
def dh_ua (h : dh_AH) (p : Nat) (f : Nat → Int) : dh_AH := (fun p' => if p' = p then f else h.1 p', h.2)
def dh_do (sh : Nat → Option (Nat × Nat × Nat × Nat)) (r : dh_RI) (ls : dh_LS) (st : List dh_V) (h : dh_AH) : Option dh_O :=
  match r with
  | (0, a, 0, _, _) => match dh_lget ls a with
    | some (.inl x) => dh_oN ls (.inl x :: st) h
    | _ => none
  | (0, a, 1, _, _) => match dh_lget ls a with
    | some (.inr (.inl x)) => dh_oN ls (.inr (.inl x) :: st) h
    | _ => none
  | (0, a, 2, _, _) => match dh_lget ls a with
    | some (.inr (.inr x)) => dh_oN ls (.inr (.inr x) :: st) h
    | _ => none
  | (1, a, 0, _, _) => match st with
    | .inl x :: s => dh_oN (dh_st1 ls a (.inl x)) s h
    | _ => none
  | (1, a, 2, _, _) => match st with
    | .inr (.inr x) :: s => dh_oN (dh_st1 ls a (.inr (.inr x))) s h
    | _ => none
  | (2, a, _, _, _) => match st with
    | .inr (.inl x) :: s => dh_oN (dh_st2 ls a (.inr (.inl x))) s h
    | _ => none
  | (3, _, _, c, _) => dh_oN ls (.inl c :: st) h
  | (4, _, _, c, _) => dh_oN ls (.inr (.inl (BitVec.ofInt 64 c)) :: st) h
  | (5, a, _, _, _) => match st with
    | .inl y :: .inl x :: s => match dh_iop a x y with
      | some v => dh_oN ls (.inl v :: s) h
      | none => none
    | _ => none
  | (6, a, _, _, _) => match st with
    | .inr (.inl y) :: .inr (.inl x) :: s => match dh_lop a x y with
      | some v => dh_oN ls (.inr (.inl v) :: s) h
      | none => none
    | _ => none
  | (7, a, _, _, _) => match st with
    | .inl y :: .inr (.inl x) :: s => match dh_lsh a x y with
      | some v => dh_oN ls (.inr (.inl v) :: s) h
      | none => none
    | _ => none
  | (8, _, _, _, _) => match st with
    | .inl x :: s => dh_oN ls (.inr (.inl (BitVec.ofInt 64 x)) :: s) h
    | _ => none
  | (9, _, _, _, _) => match st with
    | .inr (.inl x) :: s => dh_oN ls (.inl (dh_wr x.toInt) :: s) h
    | _ => none
  | (10, _, _, _, _) => match st with
    | .inl x :: s => dh_oN ls (.inl (Int.bmod x 256) :: s) h
    | _ => none
  | (11, _, _, _, _) => match st with
    | .inr (.inl y) :: .inr (.inl x) :: s => dh_oN ls (.inl (if x.toInt < y.toInt then -1 else if x = y then 0 else 1) :: s) h
    | _ => none
  | (12, _, _, _, _) => match st with
    | .inl x :: s => dh_oN ls (.inl x :: .inl x :: s) h
    | .inr (.inr x) :: s => dh_oN ls (.inr (.inr x) :: .inr (.inr x) :: s) h
    | _ => none
  | (13, _, _, _, _) => match st with
    | .inl _ :: s => dh_oN ls s h
    | .inr (.inr _) :: s => dh_oN ls s h
    | _ => none
  | (14, a, _, c, _) => match dh_lget ls a with
    | some (.inl x) => dh_oN (dh_st1 ls a (.inl (dh_wr (x + c)))) st h
    | _ => none
  | (15, a, b, _, _) => match st with
    | .inl x :: s => if dh_cnd a x 0 then dh_oJ b ls s h else dh_oN ls s h
    | _ => none
  | (16, a, b, _, _) => match st with
    | .inl y :: .inl x :: s => if dh_cnd a x y then dh_oJ b ls s h else dh_oN ls s h
    | _ => none
  | (17, _, b, _, _) => match st with
    | .inr (.inr none) :: s => dh_oJ b ls s h
    | .inr (.inr (some _)) :: s => dh_oN ls s h
    | _ => none
  | (18, _, b, _, _) => match st with
    | .inr (.inr none) :: s => dh_oN ls s h
    | .inr (.inr (some _)) :: s => dh_oJ b ls s h
    | _ => none
  | (19, _, b, _, _) => dh_oJ b ls st h
  | (20, 0, _, _, _) => match st with
    | [.inl x] => dh_oR (some (.inl x)) h
    | _ => none
  | (20, 1, _, _, _) => match st with
    | [.inr (.inl x)] => dh_oR (some (.inr (.inl x))) h
    | _ => none
  | (20, 2, _, _, _) => match st with
    | [.inr (.inr x)] => dh_oR (some (.inr (.inr x))) h
    | _ => none
  | (20, 3, _, _, _) => match st with
    | [.inl x] => if x = 0 ∨ x = 1 then dh_oR (some (.inl x)) h else none
    | _ => none
  | (21, _, _, _, _) => match st with
    | [] => dh_oR none h
    | _ => none
  | (22, ci, k, _, _) => match st with
    | .inr (.inr (some p)) :: s => if sh p = some (0, ci, 0, 0) then dh_oN ls (.inl (h.1 p k) :: s) h else none
    | _ => none
  | (24, ci, _, c, _) => match st with
    | .inr (.inr (some p)) :: s => if sh p = some (0, ci, 0, 0) then dh_oN ls (.inr (.inr (some (p + c.toNat))) :: s) h else none
    | _ => none
  | (25, ci, k, c, _) => match st with
    | .inl v :: .inr (.inr (some p)) :: s => if sh p = some (0, ci, 0, 0) ∧ (c = 1 → v = 0 ∨ v = 1) then dh_oN ls s (dh_ui h p k v) else none
    | _ => none
  | (27, 1, _, _, _) => match st with
    | .inl i :: .inr (.inr (some p)) :: s => match sh p with
      | some (1, n, _, _) => if 0 ≤ i ∧ i < n then dh_oN ls (.inl (h.1 p i.toNat) :: s) h else none
      | some (8, n, _, _) => if 0 ≤ i ∧ i < n then dh_oN ls (.inl (h.1 p i.toNat) :: s) h else none
      | _ => none
    | _ => none
  | (27, 0, _, _, _) => match st with
    | .inl i :: .inr (.inr (some p)) :: s => match sh p with
      | some (3, n, _, _) => if 0 ≤ i ∧ i < n then dh_oN ls (.inl (h.1 p i.toNat) :: s) h else none
      | some (4, n, _, _) => if 0 ≤ i ∧ i < n then dh_oN ls (.inl (h.1 p i.toNat) :: s) h else none
      | _ => none
    | _ => none
  | (28, _, _, _, _) => match st with
    | .inl i :: .inr (.inr (some p)) :: s => match sh p with
      | some (2, n, _, _) => if 0 ≤ i ∧ i < n then dh_oN ls (.inr (.inl (h.2 p i.toNat)) :: s) h else none
      | _ => none
    | _ => none
  | (29, _, _, _, _) => match st with
    | .inl i :: .inr (.inr (some p)) :: s => match sh p with
      | some (5, n, b, c) => if 0 ≤ i ∧ i < n then dh_oN ls (.inr (.inr (some (p + b + i.toNat * c))) :: s) h else none
      | some (6, n, b, c) => if 0 ≤ i ∧ i < n then dh_oN ls (.inr (.inr (some (p + b + i.toNat * c))) :: s) h else none
      | some (7, n, b, c) => if 0 ≤ i ∧ i < n then dh_oN ls (.inr (.inr (some (p + b + i.toNat * c))) :: s) h else none
      | _ => none
    | _ => none
  | (30, 1, _, _, _) => match st with
    | .inl v :: .inl i :: .inr (.inr (some p)) :: s => match sh p with
      | some (1, n, _, _) => if 0 ≤ i ∧ i < n then dh_oN ls s (dh_ui h p i.toNat v) else none
      | _ => none
    | _ => none
  | (30, 0, _, _, _) => match st with
    | .inl v :: .inl i :: .inr (.inr (some p)) :: s => match sh p with
      | some (3, n, _, _) => if 0 ≤ i ∧ i < n then dh_oN ls s (dh_ui h p i.toNat (Int.bmod v 256)) else none
      | some (4, n, _, _) => if (0 ≤ i ∧ i < n) ∧ (v = 0 ∨ v = 1) then dh_oN ls s (dh_ui h p i.toNat v) else none
      | _ => none
    | _ => none
  | (31, _, _, _, _) => match st with
    | .inr (.inl v) :: .inl i :: .inr (.inr (some p)) :: s => match sh p with
      | some (2, n, _, _) => if 0 ≤ i ∧ i < n then dh_oN ls s (dh_ul h p i.toNat v) else none
      | _ => none
    | _ => none
  | (32, _, _, _, _) => match st with
    | .inr (.inr (some p)) :: s => match sh p with
      | some (1, n, _, _) => dh_oN ls (.inl n :: s) h
      | some (2, n, _, _) => dh_oN ls (.inl n :: s) h
      | some (8, n, _, _) => dh_oN ls (.inl n :: s) h
      | _ => none
    | _ => none
  | (33, mn, n, _, _) => if n ≤ st.length ∧ dh_wsum (st.drop n) ≤ 8 then dh_oC mn (st.take n).reverse ls (st.drop n) h else none
  | (34, _, b, _, l) => match st with
    | .inl x :: s => dh_oJ (dh_sw l b x) ls s h
    | _ => none
  | (35, _, _, _, _) => dh_oN ls (.inr (.inr none) :: st) h
  | (36, _, _, _, _) => match st with
    | .inl n :: .inl dp :: .inr (.inr (some q)) :: .inl sp :: .inr (.inr (some p)) :: s => match sh p, sh q with
      | some (1, n0, _, _), some (1, n1, _, _) => if 0 ≤ sp ∧ 0 ≤ dp ∧ 0 ≤ n ∧ sp + n ≤ n0 ∧ dp + n ≤ n1 ∧ dh_wsum s ≤ 8 then dh_oN ls s (dh_ua h q (fun k => if dp.toNat ≤ k ∧ k < dp.toNat + n.toNat then h.1 p (sp.toNat + (k - dp.toNat)) else h.1 q k)) else none
      | _, _ => none
    | _ => none
  | (37, mn, n, c, _) => match (st.take n).reverse with
    | .inr (.inr (some p)) :: as => if sh p = some (0, c.toNat, 0, 0) ∧ n ≤ st.length ∧ dh_wsum (st.drop n) ≤ 8 then dh_oC mn (.inr (.inr (some p)) :: as) ls (st.drop n) h else none
    | _ => none
  | (38, 0, _, _, _) => match st with
    | .inl y :: .inl x :: s => if dh_wsum s ≤ 8 then dh_oN ls (.inl (if x < y then y else x) :: s) h else none
    | _ => none
  | (38, 1, _, _, _) => match st with
    | .inl y :: .inl x :: s => if dh_wsum s ≤ 8 then dh_oN ls (.inl (if y < x then y else x) :: s) h else none
    | _ => none
  | (38, 2, _, _, _) => match st with
    | .inr (.inl y) :: .inr (.inl x) :: s => if dh_wsum s ≤ 8 then dh_oN ls (.inr (.inl (if y.toInt < x.toInt then x else y)) :: s) h else none
    | _ => none
  | (38, 3, _, _, _) => match st with
    | .inr (.inl y) :: .inr (.inl x) :: s => if dh_wsum s ≤ 8 then dh_oN ls (.inr (.inl (if y.toInt < x.toInt then y else x)) :: s) h else none
    | _ => none
  | (39, _, b, _, _) => dh_oJ b ls st h
  | _ => none
/-- the calls that a method's blocks make -/
abbrev dh_C : Type := Nat → List dh_V → dh_AH → (Option dh_V → dh_AH → Prop) → Prop
def dh_wpB (sh : Nat → Option (Nat × Nat × Nat × Nat)) (C : dh_C) (K : Nat → dh_LS → List dh_V → dh_AH → Prop) (R : Option dh_V → dh_AH → Prop) : List dh_RI → dh_LS → List dh_V → dh_AH → Prop
  | [], _, _, _ => False
  | r :: rs, ls, st, h => match dh_do sh r ls st h with
    | none => False
    | some (.inl o) => dh_wpB sh C K R rs o.1 o.2.1 o.2.2
    | some (.inr (.inl o)) => K o.1 o.2.1 o.2.2.1 o.2.2.2
    | some (.inr (.inr (.inl o))) => R o.1 o.2
    | some (.inr (.inr (.inr o))) => C o.1 o.2.1 o.2.2.2.2 (fun v h' => dh_wpB sh C K R rs o.2.2.1 (v.toList ++ o.2.2.2.1) h')
def dh_mono (C : dh_C) : Prop := ∀ mn as h (Q Q' : Option dh_V → dh_AH → Prop), (∀ v h, Q v h → Q' v h) → C mn as h Q → C mn as h Q'
theorem dh_wpB_mono {sh : Nat → Option (Nat × Nat × Nat × Nat)} {C : dh_C} (hC : dh_mono C) {K K' : Nat → dh_LS → List dh_V → dh_AH → Prop} {R R' : Option dh_V → dh_AH → Prop} (hK : ∀ b ls st h, K b ls st h → K' b ls st h) (hR : ∀ v h, R v h → R' v h) : ∀ (rs : List dh_RI) (ls : dh_LS) (st : List dh_V) (h : dh_AH), dh_wpB sh C K R rs ls st h → dh_wpB sh C K' R' rs ls st h := by
  intro rs
  induction rs with
  | nil => intro ls st h q; exact q
  | cons r rs ih =>
    intro ls st h q
    unfold dh_wpB at q ⊢
    match dh_do sh r ls st h, q with
    | some (.inl o), q => exact ih _ _ _ q
    | some (.inr (.inl o)), q => exact hK _ _ _ _ q
    | some (.inr (.inr (.inl o))), q => exact hR _ _ q
    | some (.inr (.inr (.inr o))), q => exact hC _ _ _ _ _ (fun v h' => ih _ _ _) q
/-- the table of a method's blocks is given: the least predicate that its blocks keep -/
def dh_wp (sh : Nat → Option (Nat × Nat × Nat × Nat)) (C : dh_C) (bl : Nat → List dh_RI) (Q : Option dh_V → dh_AH → Prop) (b : Nat) (ls : dh_LS) (st : List dh_V) (h : dh_AH) : Prop :=
  ∀ X : Nat → dh_LS → List dh_V → dh_AH → Prop, (∀ b ls st h, dh_wpB sh C X Q (bl b) ls st h → X b ls st h) → X b ls st h
theorem dh_wp_go {sh : Nat → Option (Nat × Nat × Nat × Nat)} {C : dh_C} (hC : dh_mono C) {bl : Nat → List dh_RI} {Q : Option dh_V → dh_AH → Prop} {b : Nat} {ls : dh_LS} {st : List dh_V} {h : dh_AH} (q : dh_wpB sh C (dh_wp sh C bl Q) Q (bl b) ls st h) : dh_wp sh C bl Q b ls st h :=
  fun X hX => hX _ _ _ _ (dh_wpB_mono hC (fun _ _ _ _ k => k X hX) (fun _ _ r => r) _ _ _ _ q)
theorem dh_wp_mono {sh : Nat → Option (Nat × Nat × Nat × Nat)} {C : dh_C} (hC : dh_mono C) {bl : Nat → List dh_RI} {Q Q' : Option dh_V → dh_AH → Prop} (hQ : ∀ v h, Q v h → Q' v h) {b : Nat} {ls : dh_LS} {st : List dh_V} {h : dh_AH} (q : dh_wp sh C bl Q b ls st h) : dh_wp sh C bl Q' b ls st h :=
  fun X hX => q X (fun b ls st h k => hX _ _ _ _ (dh_wpB_mono hC (fun _ _ _ _ x => x) hQ _ _ _ _ k))
/-- a method's locals at its start -/
def dh_sl : List dh_V → dh_LS
  | [] => []
  | .inr (.inl x) :: t => some (.inr (.inl x)) :: none :: dh_sl t
  | v :: t => some v :: dh_sl t
def dh_en (n : Nat) (as : List dh_V) : dh_LS := dh_sl as ++ List.replicate (n - (dh_sl as).length) none
