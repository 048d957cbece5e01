/-! ===== sets of bits that a loop makes ===== -/
theorem bt1 {k i : Nat} (hk : k < 64) : (1#64 <<< k).getLsbD i = decide (i = k) := by
  rw [BitVec.getLsbD_shiftLeft, BitVec.getLsbD_one]
  by_cases h : i = k
  · subst h; simp [hk]
  · by_cases h2 : i < k
    · simp [h, h2]
    · have : ¬ (i - k = 0) := by omega
      simp [h, this]
def sb (f : Int → Bool) : BitVec 64 → Int → Nat → BitVec 64
  | b, _, 0 => b
  | b, x, n + 1 => sb f (if f x = true then b ||| (1#64 <<< (x % 64).toNat) else b) (x + 1) n
theorem sb_bit {f : Int → Bool} : ∀ (n : Nat) (b : BitVec 64) (x : Int), 0 ≤ x → x + n ≤ 64 → ∀ i : Nat, (sb f b x n).getLsbD i = (b.getLsbD i || (decide (x ≤ i ∧ (i : Int) < x + n) && f i)) := by
  intro n
  induction n with
  | zero =>
    intro b x h0 h1 i
    have : ¬ (x ≤ i ∧ (i : Int) < x + (0 : Nat)) := by omega
    rw [sb]; simp only [this, decide_false, Bool.false_and, Bool.or_false]
  | succ n ih =>
    intro b x h0 h1 i
    rw [sb, ih _ _ (by omega) (by omega)]
    have e : (x % 64).toNat = x.toNat := by omega
    by_cases hf : f x = true
    · rw [if_pos hf, BitVec.getLsbD_or, e, bt1 (by omega)]
      by_cases hi : i = x.toNat
      · subst hi
        have e2 : ((x.toNat : Nat) : Int) = x := by omega
        simp [e2, hf]
        right; omega
      · have e4 : (x + 1 ≤ (i : Int) ∧ (i : Int) < x + 1 + n) ↔ (x ≤ (i : Int) ∧ (i : Int) < x + ((n + 1 : Nat) : Int)) := by omega
        simp only [hi, decide_false, Bool.or_false, e4]
    · rw [if_neg hf]
      by_cases hi : (i : Int) = x
      · have e5 : f (i : Int) = false := by rw [hi]; simpa using hf
        simp [e5]
      · have e4 : (x + 1 ≤ (i : Int) ∧ (i : Int) < x + 1 + n) ↔ (x ≤ (i : Int) ∧ (i : Int) < x + ((n + 1 : Nat) : Int)) := by omega
        simp only [e4]
theorem bv_ext {a b : BitVec 64} (h : ∀ i : Nat, a.getLsbD i = b.getLsbD i) : a = b := BitVec.eq_of_getLsbD_eq (fun i _ => h i)
theorem sb_congr {f g : Int → Bool} : ∀ (n : Nat) (b : BitVec 64) (x : Int), (∀ y, x ≤ y → y < x + n → f y = g y) → sb f b x n = sb g b x n := by
  intro n
  induction n with
  | zero => intro b x _; rfl
  | succ n ih =>
    intro b x hfg
    rw [sb, sb, hfg x (by omega) (by omega)]
    exact ih _ _ (fun y h1 h2 => hfg y (by omega) (by omega))
/-- the set of those x from 1 to n with f -/
def st1 (f : Int → Bool) (n : Int) : BitVec 64 := sb f 0#64 1 n.toNat
theorem st1_bit {f : Int → Bool} {n : Int} (h1 : n ≤ 63) (i : Nat) : (st1 f n).getLsbD i = (decide (1 ≤ i ∧ (i : Int) ≤ n) && f i) := by
  rw [st1, sb_bit _ _ _ (by omega) (by omega)]
  have e : ((1 : Int) ≤ (i : Int) ∧ (i : Int) < 1 + (n.toNat : Int)) ↔ (1 ≤ i ∧ (i : Int) ≤ n) := by omega
  simp only [e, BitVec.getLsbD_zero, Bool.false_or]
theorem bv_zero {b : BitVec 64} : b = 0#64 ↔ ∀ i : Nat, b.getLsbD i = false := ⟨fun h i => by rw [h, BitVec.getLsbD_zero], fun h => bv_ext (fun i => by rw [h i, BitVec.getLsbD_zero])⟩
/-- a stack of ints in an array: the list's head is the top -/
def SR (f : Nat → Int) : List Int → Prop
  | [] => True
  | v :: t => f t.length = v ∧ SR f t
theorem SR_congr {f g : Nat → Int} : ∀ {st : List Int}, (∀ k, k < st.length → g k = f k) → SR f st → SR g st
  | [], _, _ => trivial
  | v :: t, h, s => ⟨(h _ (by simp)).trans s.1, SR_congr (fun k hk => h k (by simp only [List.length_cons]; omega)) s.2⟩
