/-! ===== law: the text, read purely. A piece of code is a list of (sign, value): 0 a number, 1 n t x, 2-6 + - * / %, 7-9 < > =, 10 !, 11 & and 12 | (value: how far on it goes), 13 the end ===== -/
abbrev TK : Type := Int × Int
/-- a fault (0: none), the place behind, the code -/
abbrev ER : Type := Int × Int × List TK
/-- a fault, the place behind, the class's code, the reference's -/
abbrev CR : Type := Int × Int × List TK × List TK
def nE (c : Int → Int) : Nat → Int → Int
  | 0, p => p
  | k + 1, p => if dg (c p) then nE c k (p + 1) else p
def nV (c : Int → Int) : Nat → Int → Int → Int
  | 0, _, v => v
  | k + 1, p, v => if dg (c p) then nV c k (p + 1) (10 * v + c p - 48) else v
def pA (c : Int → Int) (p : Int) : ER :=
  if dg (c p) then (if dg (c (nE c 5 p)) then (-2000 - nE c 5 p, 0, []) else (0, nE c 5 p, [(0, nV c 5 p 0)]))
  else if c p = 110 then (0, p + 1, [(1, 0)]) else if c p = 116 then (0, p + 1, [(1, 1)]) else if c p = 120 then (0, p + 1, [(1, 2)]) else (-1000 - p, 0, [])
def pF (c : Int → Int) (X : Int → ER) (k : Nat) (p : Int) : ER :=
  if c p = 91 then (if k = 0 then (-5000 - p, 0, []) else if (X (p + 1)).1 ≠ 0 then ((X (p + 1)).1, 0, []) else if c (X (p + 1)).2.1 = 93 then (0, (X (p + 1)).2.1 + 1, (X (p + 1)).2.2) else (-1000 - (X (p + 1)).2.1, 0, []))
  else pA c p
def oS (x : Int) : Int := if x = 43 then 2 else if x = 45 then 3 else if x = 42 then 4 else if x = 47 then 5 else 6
abbrev Jm (x : Int) : Prop := x = 42 ∨ x = 47 ∨ x = 37
abbrev Ja (x : Int) : Prop := x = 43 ∨ x = 45
abbrev Jl (l : Bool) (x : Int) : Prop := l = true ∧ Jm x ∨ l = false ∧ Ja x
def zL (c : Int → Int) (l : Bool) (G : Int → ER) : Nat → Int → List TK → List TK → ER
  | 0, _, _, _ => (-1, 0, [])
  | m + 1, p, acc, pd => if (G p).1 ≠ 0 then ((G p).1, 0, []) else if Jl l (c (G p).2.1) then zL c l G m ((G p).2.1 + 1) (acc ++ (G p).2.2 ++ pd) [(oS (c (G p).2.1), 0)] else (0, (G p).2.1, acc ++ (G p).2.2 ++ pd)
/-- an expression's terms, an expression: k brackets more may be opened -/
def pX (c : Int → Int) : Nat → Int → ER
  | 0 => fun _ => (-1, 0, [])
  | k + 1 => fun p => zL c false (fun p => zL c true (pF c (pX c k) k) 200 p [] []) 200 p [] []
def pT (c : Int → Int) (k : Nat) (p : Int) : ER := zL c true (pF c (pX c k) k) 200 p [] []
theorem pX_s {c : Int → Int} {k : Nat} {p : Int} : pX c (k + 1) p = zL c false (pT c k) 200 p [] [] := rfl
/-- the chains of a condition -/
def addR (op : Int) (a R : List TK) : List TK := if a = [] then R else a ++ (op, (R.length : Int) + 1) :: R
def zC (c : Int → Int) (j op : Int) (G : Int → CR) : Nat → Int → List TK → CR
  | 0, _, _ => (-1, 0, [], [])
  | m + 1, p, acc => if (G p).1 ≠ 0 then ((G p).1, 0, [], []) else if c (G p).2.1 = j then
      (if (zC c j op G m ((G p).2.1 + 1) (addR op acc (G p).2.2.2)).1 ≠ 0 then ((zC c j op G m ((G p).2.1 + 1) (addR op acc (G p).2.2.2)).1, 0, [], []) else
        (0, (zC c j op G m ((G p).2.1 + 1) (addR op acc (G p).2.2.2)).2.1, (G p).2.2.1 ++ (op, ((zC c j op G m ((G p).2.1 + 1) (addR op acc (G p).2.2.2)).2.2.1.length : Int) + 1) :: (zC c j op G m ((G p).2.1 + 1) (addR op acc (G p).2.2.2)).2.2.1, (zC c j op G m ((G p).2.1 + 1) (addR op acc (G p).2.2.2)).2.2.2))
    else (0, (G p).2.1, (G p).2.2.1, addR op acc (G p).2.2.2)
/-- parts with a & between, a condition: over the tests -/
def pB (c : Int → Int) (G : Int → CR) (p : Int) : CR := zC c 38 11 G 200 p []
def pC (c : Int → Int) (G : Int → CR) (p : Int) : CR := zC c 124 12 (pB c G) 200 p []
def oC (x : Int) : Int := if x = 60 then 7 else if x = 62 then 8 else 9
abbrev Jc (x : Int) : Prop := x = 60 ∨ x = 62 ∨ x = 61
def pQ1 (c : Int → Int) (k : Nat) (Y : Int → CR) (p : Int) : CR :=
    if c p = 33 then (if k = 0 then (-5000 - p, 0, [], []) else if (Y (p + 1)).1 ≠ 0 then ((Y (p + 1)).1, 0, [], []) else (0, (Y (p + 1)).2.1, (Y (p + 1)).2.2.1 ++ [(10, 0)], (Y (p + 1)).2.2.2 ++ [(10, 0)]))
    else if c p = 40 then (if k = 0 then (-5000 - p, 0, [], []) else if (pC c Y (p + 1)).1 ≠ 0 then ((pC c Y (p + 1)).1, 0, [], []) else if c (pC c Y (p + 1)).2.1 = 41 then (0, (pC c Y (p + 1)).2.1 + 1, (pC c Y (p + 1)).2.2.1, (pC c Y (p + 1)).2.2.2) else (-1000 - (pC c Y (p + 1)).2.1, 0, [], []))
    else if (pX c (k + 1) p).1 ≠ 0 then ((pX c (k + 1) p).1, 0, [], [])
    else if Jc (c (pX c (k + 1) p).2.1) then
      (if (pX c (k + 1) ((pX c (k + 1) p).2.1 + 1)).1 ≠ 0 then ((pX c (k + 1) ((pX c (k + 1) p).2.1 + 1)).1, 0, [], []) else
        (0, (pX c (k + 1) ((pX c (k + 1) p).2.1 + 1)).2.1, (pX c (k + 1) p).2.2 ++ (pX c (k + 1) ((pX c (k + 1) p).2.1 + 1)).2.2 ++ [(oC (c (pX c (k + 1) p).2.1), 0)], (pX c (k + 1) p).2.2 ++ (pX c (k + 1) ((pX c (k + 1) p).2.1 + 1)).2.2 ++ [(oC (c (pX c (k + 1) p).2.1), 0)]))
    else (-1000 - (pX c (k + 1) p).2.1, 0, [], [])
def pQ (c : Int → Int) : Nat → Int → CR
  | 0 => fun _ => (-1, 0, [], [])
  | k + 1 => pQ1 c k (pQ c k)
theorem pQ_s {c : Int → Int} {k : Nat} {p : Int} : pQ c (k + 1) p = pQ1 c k (pQ c k) p := rfl
/-! ===== how far the reading comes, how long the code is ===== -/
def wE (n : Int) (G : Int → ER) : Prop := ∀ p, 0 ≤ p → p ≤ n → ((G p).1 = 0 → p < (G p).2.1 ∧ (G p).2.1 ≤ n ∧ ((G p).2.2.length : Int) ≤ (G p).2.1 - p ∧ 1 ≤ (G p).2.2.length) ∧ (G p).1 ≤ 0
def wC (n : Int) (G : Int → CR) : Prop := ∀ p, 0 ≤ p → p ≤ n → ((G p).1 = 0 → p < (G p).2.1 ∧ (G p).2.1 ≤ n ∧ ((G p).2.2.1.length : Int) ≤ (G p).2.1 - p ∧ (G p).2.2.2.length = (G p).2.2.1.length ∧ 1 ≤ (G p).2.2.1.length) ∧ (G p).1 ≤ 0
section WF
variable {c : Int → Int} {n : Int}
theorem c_lt (hn : ∀ p, n ≤ p → c p = -1) {p : Int} (q : 0 ≤ c p) : p < n := Decidable.byContradiction (fun z => by have := hn p (by omega); omega)
theorem nE_r : ∀ (k : Nat) (p : Int), p ≤ nE c k p ∧ nE c k p ≤ p + k
  | 0, p => by rw [nE]; omega
  | k + 1, p => by
    have := nE_r k (p + 1)
    rw [nE]; split <;> omega
theorem nE_n (hn : ∀ p, n ≤ p → c p = -1) : ∀ (k : Nat) (p : Int), p ≤ n → nE c k p ≤ n
  | 0, p, q => by rw [nE]; exact q
  | k + 1, p, q => by
    rw [nE]; split
    · rename_i z
      exact nE_n hn k (p + 1) (by have := c_lt hn (p := p) (by omega); omega)
    · exact q
theorem nV_r : ∀ (k : Nat) (p v : Int), 0 ≤ v → 0 ≤ nV c k p v ∧ nV c k p v ≤ 10 ^ k * v + (10 ^ k - 1)
  | 0, p, v, q => by rw [nV]; omega
  | k + 1, p, v, q => by
    have e : (10 : Int) ^ (k + 1) = 10 ^ k * 10 := Int.pow_succ 10 k
    have g : (0 : Int) < 10 ^ k := Int.pow_pos (by omega)
    rw [nV]; split
    · rename_i z
      have := nV_r k (p + 1) (10 * v + c p - 48) (by omega)
      refine ⟨this.1, Int.le_trans this.2 ?_⟩
      have m : (10 : Int) ^ k * (10 * v + c p - 48) ≤ 10 ^ k * (10 * v + 9) := Int.mul_le_mul_of_nonneg_left (by omega) (by omega)
      rw [e, Int.mul_add] at *
      rw [Int.mul_assoc]
      omega
    · refine ⟨q, ?_⟩
      have m : 1 * v ≤ (10 : Int) ^ (k + 1) * v := Int.mul_le_mul_of_nonneg_right (by rw [e]; omega) q
      have : (0 : Int) < 10 ^ (k + 1) := Int.pow_pos (by omega)
      omega
theorem nV_5 {p : Int} : 0 ≤ nV c 5 p 0 ∧ nV c 5 p 0 ≤ 99999 := by
  have := nV_r (c := c) 5 p 0 (by omega)
  omega
theorem wE_pA (hn : ∀ p, n ≤ p → c p = -1) : wE n (pA c) := by
  intro p p0 p1
  unfold pA
  have e := nE_n hn 5 p p1
  have r := nE_r (c := c) 5 p
  by_cases q : dg (c p)
  · have e2 : p < nE c 5 p := by
      have := nE_r (c := c) 4 (p + 1)
      rw [nE, if_pos q]; omega
    rw [if_pos q]
    split
    · exact ⟨fun z => by simp only [] at z; omega, by simp only []; omega⟩
    · exact ⟨fun _ => ⟨e2, e, by simp only [List.length_cons, List.length_nil]; omega, by simp⟩, by simp⟩
  · rw [if_neg q]
    have l : ∀ x : Int, 0 ≤ x → c p = x → p < n := fun x x0 ex => c_lt hn (by omega)
    split
    · rename_i z; have := l _ (by omega) z
      exact ⟨fun _ => ⟨by simp only []; omega, by simp only []; omega, by simp only [List.length_cons, List.length_nil]; omega, by simp⟩, by simp⟩
    · split
      · rename_i z; have := l _ (by omega) z
        exact ⟨fun _ => ⟨by simp only []; omega, by simp only []; omega, by simp only [List.length_cons, List.length_nil]; omega, by simp⟩, by simp⟩
      · split
        · rename_i z; have := l _ (by omega) z
          exact ⟨fun _ => ⟨by simp only []; omega, by simp only []; omega, by simp only [List.length_cons, List.length_nil]; omega, by simp⟩, by simp⟩
        · exact ⟨fun z => by simp only [] at z; omega, by simp only []; omega⟩
theorem wE_pF (hn : ∀ p, n ≤ p → c p = -1) {X : Int → ER} {k : Nat} (w : k ≠ 0 → wE n X) : wE n (pF c X k) := by
  intro p p0 p1
  unfold pF
  by_cases q : c p = 91
  · rw [if_pos q]
    have l := c_lt hn (p := p) (by omega)
    by_cases k0 : k = 0
    · rw [if_pos k0]
      exact ⟨fun z => by simp only [] at z; omega, by simp only []; omega⟩
    · rw [if_neg k0]
      have w1 := w k0 (p + 1) (by omega) (by omega)
      by_cases z : (X (p + 1)).1 = 0
      · rw [if_neg (by omega)]
        obtain ⟨a1, a2, a3, a4⟩ := w1.1 z
        split
        · rename_i y
          have := c_lt hn (p := (X (p + 1)).2.1) (by omega)
          exact ⟨fun _ => ⟨by simp only []; omega, by simp only []; omega, by simp only []; omega, a4⟩, by simp⟩
        · exact ⟨fun z => by simp only [] at z; omega, by simp only []; omega⟩
      · rw [if_pos z]
        exact ⟨fun y => absurd y z, w1.2⟩
  · rw [if_neg q]; exact wE_pA hn p p0 p1
theorem wE_zL (hn : ∀ p, n ≤ p → c p = -1) {l : Bool} {G : Int → ER} (w : wE n G) : ∀ (m : Nat) (p s : Int) (acc pd : List TK), 0 ≤ s → s ≤ p → p ≤ n → ((acc.length + pd.length : Nat) : Int) ≤ p - s → ((zL c l G m p acc pd).1 = 0 → p < (zL c l G m p acc pd).2.1 ∧ (zL c l G m p acc pd).2.1 ≤ n ∧ ((zL c l G m p acc pd).2.2.length : Int) ≤ (zL c l G m p acc pd).2.1 - s ∧ 1 ≤ (zL c l G m p acc pd).2.2.length) ∧ (zL c l G m p acc pd).1 ≤ 0
  | 0, p, s, acc, pd, s0, s1, p1, hl => by rw [zL]; exact ⟨fun z => by simp at z, by simp⟩
  | m + 1, p, s, acc, pd, s0, s1, p1, hl => by
    have w1 := w p (by omega) p1
    rw [zL]
    by_cases z : (G p).1 = 0
    · rw [if_neg (by omega)]
      obtain ⟨a1, a2, a3, a4⟩ := w1.1 z
      by_cases q : Jl l (c (G p).2.1)
      · rw [if_pos q]
        have lt : (G p).2.1 < n := c_lt hn (by rcases q with ⟨_, q⟩ | ⟨_, q⟩ <;> omega)
        have ih := wE_zL hn (l := l) w m ((G p).2.1 + 1) s (acc ++ (G p).2.2 ++ pd) [(oS (c (G p).2.1), 0)] s0 (by omega) (by omega) (by simp only [List.length_append, List.length_cons, List.length_nil]; omega)
        exact ⟨fun y => by have := ih.1 y; omega, ih.2⟩
      · rw [if_neg q]
        exact ⟨fun _ => ⟨a1, a2, by simp only [List.length_append]; omega, by simp only [List.length_append]; omega⟩, by simp⟩
    · rw [if_pos z]
      exact ⟨fun y => absurd y z, w1.2⟩
theorem wE_pT (hn : ∀ p, n ≤ p → c p = -1) {k : Nat} (w : k ≠ 0 → wE n (pX c k)) : wE n (pT c k) := fun p p0 p1 => wE_zL hn (wE_pF hn w) 200 p p [] [] p0 (by omega) p1 (by simp)
theorem wE_pX (hn : ∀ p, n ≤ p → c p = -1) : ∀ k : Nat, wE n (pX c k)
  | 0 => fun p _ _ => by rw [pX]; exact ⟨fun z => by simp at z, by simp⟩
  | k + 1 => fun p p0 p1 => by
    rw [pX_s]
    exact wE_zL hn (wE_pT hn (fun _ => wE_pX hn k)) 200 p p [] [] p0 (by omega) p1 (by simp)
theorem addR_len {op : Int} {a R : List TK} : (addR op a R).length = if a.length = 0 then R.length else a.length + 1 + R.length := by
  unfold addR
  by_cases q : a = []
  · rw [if_pos q, q]; simp
  · rw [if_neg q, if_neg (fun z => q (List.length_eq_zero_iff.1 z))]; simp; omega
theorem wC_zC (hn : ∀ p, n ≤ p → c p = -1) {j op : Int} (j0 : 0 ≤ j) {G : Int → CR} (w : wC n G) : ∀ (m : Nat) (p : Int) (acc : List TK), 0 ≤ p → p ≤ n → ((zC c j op G m p acc).1 = 0 → p < (zC c j op G m p acc).2.1 ∧ (zC c j op G m p acc).2.1 ≤ n ∧ ((zC c j op G m p acc).2.2.1.length : Int) ≤ (zC c j op G m p acc).2.1 - p ∧ (zC c j op G m p acc).2.2.2.length = (if acc.length = 0 then 0 else acc.length + 1) + (zC c j op G m p acc).2.2.1.length ∧ 1 ≤ (zC c j op G m p acc).2.2.1.length) ∧ (zC c j op G m p acc).1 ≤ 0
  | 0, p, acc, p0, p1 => by rw [zC]; exact ⟨fun z => by simp at z, by simp⟩
  | m + 1, p, acc, p0, p1 => by
    have w1 := w p (by omega) p1
    rw [zC]
    by_cases z : (G p).1 = 0
    · rw [if_neg (by omega)]
      obtain ⟨a1, a2, a3, a4, a5⟩ := w1.1 z
      have al := addR_len (op := op) (a := acc) (R := (G p).2.2.2)
      by_cases q : c (G p).2.1 = j
      · rw [if_pos q]
        have lt : (G p).2.1 < n := c_lt hn (by omega)
        have ih := wC_zC hn (op := op) j0 w m ((G p).2.1 + 1) (addR op acc (G p).2.2.2) (by omega) (by omega)
        by_cases y : (zC c j op G m ((G p).2.1 + 1) (addR op acc (G p).2.2.2)).1 = 0
        · rw [if_neg (by omega)]
          obtain ⟨b1, b2, b3, b4, b5⟩ := ih.1 y
          refine ⟨fun _ => ⟨by simp only []; omega, b2, by simp only [List.length_append, List.length_cons]; omega, ?_, by simp only [List.length_append, List.length_cons]; omega⟩, by simp⟩
          simp only [List.length_append, List.length_cons]
          rw [b4, al, a4]
          split <;> split <;> omega
        · rw [if_pos y]
          exact ⟨fun x => absurd x y, ih.2⟩
      · rw [if_neg q]
        refine ⟨fun _ => ⟨a1, a2, a3, ?_, a5⟩, by simp⟩
        simp only []
        rw [al, a4]
        split <;> omega
    · rw [if_pos z]
      exact ⟨fun y => absurd y z, w1.2⟩
theorem wC_pB (hn : ∀ p, n ≤ p → c p = -1) {G : Int → CR} (w : wC n G) : wC n (pB c G) := fun p p0 p1 => by
  have := wC_zC hn (j := 38) (op := 11) (by omega) w 200 p [] p0 p1
  simpa [pB] using this
theorem wC_pC (hn : ∀ p, n ≤ p → c p = -1) {G : Int → CR} (w : wC n G) : wC n (pC c G) := fun p p0 p1 => by
  have := wC_zC hn (j := 124) (op := 12) (by omega) (wC_pB hn w) 200 p [] p0 p1
  simpa [pC] using this
theorem wC_pQ (hn : ∀ p, n ≤ p → c p = -1) : ∀ k : Nat, wC n (pQ c k)
  | 0 => fun p _ _ => by rw [pQ]; exact ⟨fun z => by simp at z, by simp⟩
  | k + 1 => fun p p0 p1 => by
    have wq := wC_pQ hn k
    have wc := wC_pC hn wq
    rw [pQ_s, pQ1]
    by_cases q : c p = 33
    · rw [if_pos q]
      have l := c_lt hn (p := p) (by omega)
      by_cases k0 : k = 0
      · rw [if_pos k0]; exact ⟨fun z => by simp only [] at z; omega, by simp only []; omega⟩
      rw [if_neg k0]
      have w1 := wq (p + 1) (by omega) (by omega)
      by_cases z : (pQ c k (p + 1)).1 = 0
      · rw [if_neg (by omega)]
        obtain ⟨a1, a2, a3, a4, a5⟩ := w1.1 z
        exact ⟨fun _ => ⟨by simp only []; omega, a2, by simp only [List.length_append, List.length_cons, List.length_nil]; omega, by simp only [List.length_append, List.length_cons, List.length_nil]; omega, by simp only [List.length_append, List.length_cons, List.length_nil]; omega⟩, by simp⟩
      · rw [if_pos z]; exact ⟨fun y => absurd y z, w1.2⟩
    rw [if_neg q]
    by_cases q2 : c p = 40
    · rw [if_pos q2]
      have l := c_lt hn (p := p) (by omega)
      by_cases k0 : k = 0
      · rw [if_pos k0]; exact ⟨fun z => by simp only [] at z; omega, by simp only []; omega⟩
      rw [if_neg k0]
      have w1 := wc (p + 1) (by omega) (by omega)
      by_cases z : (pC c (pQ c k) (p + 1)).1 = 0
      · rw [if_neg (by omega)]
        obtain ⟨a1, a2, a3, a4, a5⟩ := w1.1 z
        split
        · rename_i y
          have := c_lt hn (p := (pC c (pQ c k) (p + 1)).2.1) (by omega)
          exact ⟨fun _ => ⟨by simp only []; omega, by simp only []; omega, by simp only []; omega, a4, a5⟩, by simp⟩
        · exact ⟨fun z => by simp only [] at z; omega, by simp only []; omega⟩
      · rw [if_pos z]; exact ⟨fun y => absurd y z, w1.2⟩
    rw [if_neg q2]
    have w1 := wE_pX hn (k + 1) p p0 p1
    by_cases z : (pX c (k + 1) p).1 = 0
    · rw [if_neg (by omega)]
      obtain ⟨a1, a2, a3, a4⟩ := w1.1 z
      by_cases y : Jc (c (pX c (k + 1) p).2.1)
      · rw [if_pos y]
        have lt := c_lt hn (p := (pX c (k + 1) p).2.1) (by omega)
        have w2 := wE_pX hn (k + 1) ((pX c (k + 1) p).2.1 + 1) (by omega) (by omega)
        by_cases x : (pX c (k + 1) ((pX c (k + 1) p).2.1 + 1)).1 = 0
        · rw [if_neg (by omega)]
          obtain ⟨b1, b2, b3, b4⟩ := w2.1 x
          exact ⟨fun _ => ⟨by simp only []; omega, b2, by simp only [List.length_append, List.length_cons, List.length_nil]; omega, rfl, by simp only [List.length_append, List.length_cons, List.length_nil]; omega⟩, by simp⟩
        · rw [if_pos x]; exact ⟨fun y => absurd y x, w2.2⟩
      · rw [if_neg y]; exact ⟨fun z => by simp only [] at z; omega, by simp only []; omega⟩
    · rw [if_pos z]; exact ⟨fun y => absurd y z, w1.2⟩
end WF
