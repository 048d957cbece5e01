/-! ===== law: what the code that was read comes to ===== -/
def Cp (hp la x : Int) (k : Nat) (L : List TK) (D : Option Int) : Prop := ∀ (T : List TK) (st : List Int), st.length + k ≤ 20 → exl hp la x (L ++ T) st = D.elim (some 0) (fun v => exl hp la x T (v :: st))
def DJ (op : Int) (D E : Option Int) : Option Int := D.elim none (fun v => if v = op - 11 then some v else E)
def B01 (D : Option Int) : Prop := ∀ v, D = some v → v = 0 ∨ v = 1
theorem DJ_assoc {op : Int} {D E F : Option Int} : DJ op (DJ op D E) F = DJ op D (DJ op E F) := by
  cases D with
  | none => rfl
  | some v =>
    unfold DJ
    simp only [Option.elim]
    by_cases q : v = op - 11
    · rw [if_pos q, if_pos q]; simp only [Option.elim]; rw [if_pos q]
    · rw [if_neg q, if_neg q]
theorem B01_J {op : Int} {D E : Option Int} (a : B01 D) (b : B01 E) : B01 (DJ op D E) := by
  intro v e
  cases D with
  | none => cases e
  | some w =>
    unfold DJ at e
    simp only [Option.elim] at e
    by_cases q : w = op - 11
    · rw [if_pos q] at e; exact a v e
    · rw [if_neg q] at e; exact b v e
section CP
variable {hp la x : Int} {k k' : Nat} {L M : List TK} {D E : Option Int} {op v : Int} {c : Int → Int} {n : Int}
theorem Cp_mono (h : Cp hp la x k L D) (q : k ≤ k') : Cp hp la x k' L D := fun T st s => h T st (by omega)
theorem Cp_num (v0 : 0 ≤ v) (v1 : v ≤ 100000) : Cp hp la x 1 [(0, v)] (some v) := fun T st s => exl_num (by omega) v0 v1
theorem Cp_let (v0 : v = 0 ∨ v = 1 ∨ v = 2) : Cp hp la x 1 [(1, v)] (some (if v = 0 then hp else if v = 1 then la else x)) := fun T st s => exl_let (by omega) v0
theorem Cp_bin (a : Cp hp la x k L D) (b : Cp hp la x k M E) (o0 : 2 ≤ op) (o1 : op ≤ 9) : Cp hp la x (k + 1) (L ++ M ++ [(op, 0)]) (D.elim none (fun u => E.elim none (fun w => jO op u w))) := by
  intro T st s
  rw [List.append_assoc, List.append_assoc, a _ st (by omega)]
  cases D with
  | none => rfl
  | some u =>
    simp only [Option.elim]
    rw [b _ (u :: st) (by rw [List.length_cons]; omega)]
    cases E with
    | none => rfl
    | some w =>
      simp only [Option.elim, List.cons_append, List.nil_append]
      rw [exl_bin o0 o1]
      cases jO op u w <;> rfl
theorem Cp_not (a : Cp hp la x k L D) : Cp hp la x k (L ++ [(10, 0)]) (D.elim none (fun v => some (dh_wr (1 - v)))) := by
  intro T st s
  rw [List.append_assoc, a _ st s]
  cases D with
  | none => rfl
  | some u => simp only [Option.elim, List.cons_append, List.nil_append]; rw [exl_not]
theorem Cp_J (o : op = 11 ∨ op = 12) (a : Cp hp la x k L D) (b : Cp hp la x k M E) : Cp hp la x k (L ++ (op, (M.length : Int) + 1) :: M) (DJ op D E) := by
  intro T st s
  rw [List.append_assoc, a _ st s]
  cases D with
  | none => rfl
  | some u =>
    unfold DJ
    simp only [Option.elim, List.cons_append]
    rw [exl_jmp o M.length (by rw [List.length_append]; omega), List.drop_left]
    by_cases q : u = op - 11
    · rw [if_pos q, if_pos q]
    · rw [if_neg q, if_neg q, b T st s]
      rfl
theorem Cp_0 (a : Cp hp la x k L D) (q : k ≤ 20) : exl hp la x L [] = some (D.elim 0 id) := by
  have := a [] [] (by simpa using q)
  rw [List.append_nil] at this
  rw [this]
  cases D <;> rfl
def SE (hp la x n : Int) (k : Nat) (G : Int → ER) : Prop := ∀ p, 0 ≤ p → p ≤ n → (G p).1 = 0 → ∃ D, Cp hp la x k (G p).2.2 D
theorem SE_pA : SE hp la x n 1 (pA c) := by
  intro p p0 pn
  unfold pA
  by_cases q : dg (c p)
  · rw [if_pos q]
    by_cases y : dg (c (nE c 5 p))
    · rw [if_pos y]
      intro z
      have := nE_r (c := c) 5 p
      simp only [] at z; omega
    · rw [if_neg y]
      intro _
      have := nV_5 (c := c) (p := p)
      exact ⟨_, Cp_num (by omega) (by omega)⟩
  · rw [if_neg q]
    by_cases y1 : c p = 110
    · rw [if_pos y1]; exact fun _ => ⟨_, Cp_let (by omega)⟩
    · rw [if_neg y1]
      by_cases y2 : c p = 116
      · rw [if_pos y2]; exact fun _ => ⟨_, Cp_let (by omega)⟩
      · rw [if_neg y2]
        by_cases y3 : c p = 120
        · rw [if_pos y3]; exact fun _ => ⟨_, Cp_let (by omega)⟩
        · rw [if_neg y3]
          intro z
          simp only [] at z; omega
theorem SE_pF (hn : ∀ p, n ≤ p → c p = -1) {X : Int → ER} {j : Nat} (w : j ≠ 0 → SE hp la x n k X ∧ wE n X) (k1 : 1 ≤ k) : SE hp la x n k (pF c X j) := by
  intro p p0 pn
  unfold pF
  by_cases q : c p = 91
  · rw [if_pos q]
    have lt := c_lt hn (p := p) (by omega)
    by_cases j0 : j = 0
    · rw [if_pos j0]; intro z; simp only [] at z; omega
    · rw [if_neg j0]
      have W := w j0
      by_cases z : (X (p + 1)).1 = 0
      · rw [if_neg (by omega)]
        have W2 := (W.2 (p + 1) (by omega) (by omega)).1 z
        by_cases y : c (X (p + 1)).2.1 = 93
        · rw [if_pos y]
          exact fun _ => W.1 (p + 1) (by omega) (by omega) z
        · rw [if_neg y]
          intro e; simp only [] at e; omega
      · rw [if_pos z]; exact fun e => absurd e z
  · rw [if_neg q]
    intro z
    obtain ⟨D, e⟩ := SE_pA (hp := hp) (la := la) (x := x) (n := n) p p0 pn z
    exact ⟨D, Cp_mono e k1⟩
theorem oS_r {y : Int} : 2 ≤ oS y ∧ oS y ≤ 6 := by
  unfold oS
  split
  · omega
  · split
    · omega
    · split
      · omega
      · split <;> omega
theorem SE_zL (hn : ∀ p, n ≤ p → c p = -1) {l : Bool} {G : Int → ER} (w : wE n G) (g : SE hp la x n k G) : ∀ (m : Nat) (p : Int) (acc pd : List TK), 0 ≤ p → p ≤ n → (acc = [] ∧ pd = [] ∨ (∃ D, Cp hp la x (k + 1) acc D) ∧ ∃ op, 2 ≤ op ∧ op ≤ 6 ∧ pd = [(op, 0)]) → (zL c l G m p acc pd).1 = 0 → ∃ D, Cp hp la x (k + 1) (zL c l G m p acc pd).2.2 D
  | 0, p, acc, pd, p0, pn, ha, z => by rw [zL] at z; simp at z
  | m + 1, p, acc, pd, p0, pn, ha, z => by
    rw [zL] at z ⊢
    by_cases y : (G p).1 = 0
    · rw [if_neg (by omega)] at z ⊢
      obtain ⟨D, e⟩ := g p p0 pn y
      have W := (w p p0 pn).1 y
      have N : ∃ D, Cp hp la x (k + 1) (acc ++ (G p).2.2 ++ pd) D := by
        rcases ha with ⟨rfl, rfl⟩ | ⟨⟨D0, e0⟩, op, o0, o1, rfl⟩
        · rw [List.nil_append, List.append_nil]; exact ⟨D, Cp_mono e (by omega)⟩
        · refine ⟨D0.elim none (fun u => D.elim none (fun w => jO op u w)), fun T st s => ?_⟩
          · rw [List.append_assoc, List.append_assoc, e0 _ st s]
            cases D0 with
            | none => rfl
            | some u =>
              simp only [Option.elim]
              rw [e _ (u :: st) (by rw [List.length_cons]; omega)]
              cases D with
              | none => rfl
              | some w =>
                simp only [Option.elim, List.cons_append, List.nil_append]
                rw [exl_bin o0 (by omega)]
                cases jO op u w <;> rfl
      by_cases q : Jl l (c (G p).2.1)
      · rw [if_pos q] at z ⊢
        have lt := c_lt hn (p := (G p).2.1) (by rcases q with ⟨_, q⟩ | ⟨_, q⟩ <;> omega)
        have o := oS_r (y := c (G p).2.1)
        exact SE_zL hn (l := l) w g m _ _ _ (by omega) (by omega) (Or.inr ⟨N, _, o.1, o.2, rfl⟩) z
      · rw [if_neg q] at z ⊢
        exact N
    · rw [if_pos y] at z
      exact absurd z y
theorem SE_pX (hn : ∀ p, n ≤ p → c p = -1) : ∀ j : Nat, SE hp la x n (2 * j + 1) (pX c j)
  | 0 => fun p _ _ z => by rw [pX] at z; simp at z
  | j + 1 => by
    have F : SE hp la x n (2 * j + 1) (pF c (pX c j) j) := SE_pF hn (fun _ => ⟨SE_pX hn j, wE_pX hn j⟩) (by omega)
    have T : SE hp la x n (2 * j + 2) (pT c j) := fun p p0 pn z => SE_zL hn (wE_pF hn (fun _ => wE_pX hn j)) F 200 p [] [] p0 pn (Or.inl ⟨rfl, rfl⟩) z
    exact fun p p0 pn z => SE_zL hn (wE_pT hn (fun _ => wE_pX hn j)) T 200 p [] [] p0 pn (Or.inl ⟨rfl, rfl⟩) z
def SC (hp la x n : Int) (G : Int → CR) : Prop := ∀ p, 0 ≤ p → p ≤ n → (G p).1 = 0 → ∃ D, B01 D ∧ Cp hp la x 18 (G p).2.2.1 D ∧ Cp hp la x 18 (G p).2.2.2 D
theorem SC_zC (hn : ∀ p, n ≤ p → c p = -1) {j op : Int} (j0 : 0 ≤ j) (o : op = 11 ∨ op = 12) {G : Int → CR} (w : wC n G) (g : SC hp la x n G) : ∀ (m : Nat) (p : Int) (acc : List TK) (D0 : Option Int), 0 ≤ p → p ≤ n → (acc ≠ [] → Cp hp la x 18 acc D0) → (zC c j op G m p acc).1 = 0 → ∃ D, B01 D ∧ Cp hp la x 18 (zC c j op G m p acc).2.2.1 D ∧ Cp hp la x 18 (zC c j op G m p acc).2.2.2 (if acc = [] then D else DJ op D0 D)
  | 0, p, acc, D0, p0, pn, ha, z => by rw [zC] at z; simp at z
  | m + 1, p, acc, D0, p0, pn, ha, z => by
    rw [zC] at z ⊢
    by_cases y : (G p).1 = 0
    · rw [if_neg (by omega)] at z ⊢
      obtain ⟨D, e1, e2, e3⟩ := g p p0 pn y
      have W := (w p p0 pn).1 y
      have N : Cp hp la x 18 (addR op acc (G p).2.2.2) (if acc = [] then D else DJ op D0 D) := by
        by_cases e : acc = []
        · rw [if_pos e, e, addR_nil]; exact e3
        · rw [if_neg e, addR_cons e]; exact Cp_J o (ha e) e3
      by_cases q : c (G p).2.1 = j
      · rw [if_pos q] at z ⊢
        have lt := c_lt hn (p := (G p).2.1) (by omega)
        by_cases u : (zC c j op G m ((G p).2.1 + 1) (addR op acc (G p).2.2.2)).1 = 0
        · rw [if_neg (by omega)] at z ⊢
          have ne : addR op acc (G p).2.2.2 ≠ [] := fun e => by
            have := addR_len (op := op) (a := acc) (R := (G p).2.2.2)
            rw [e, List.length_nil] at this
            split at this <;> omega
          obtain ⟨D', f1, f2, f3⟩ := SC_zC hn j0 o w g m ((G p).2.1 + 1) (addR op acc (G p).2.2.2) _ (by omega) (by omega) (fun _ => N) u
          rw [if_neg ne] at f3
          refine ⟨DJ op D D', B01_J e1 f1, Cp_J o e2 f2, ?_⟩
          by_cases e : acc = []
          · rw [if_pos e] at f3 ⊢; exact f3
          · rw [if_neg e] at f3 ⊢; rw [← DJ_assoc]; exact f3
        · rw [if_pos u] at z
          exact absurd z u
      · rw [if_neg q] at z ⊢
        exact ⟨D, e1, e2, N⟩
    · rw [if_pos y] at z
      exact absurd z y
theorem SC_pB (hn : ∀ p, n ≤ p → c p = -1) {G : Int → CR} (w : wC n G) (g : SC hp la x n G) : SC hp la x n (pB c G) := fun p p0 pn z => by
  have := SC_zC hn (j := 38) (op := 11) (by omega) (Or.inl rfl) w g 200 p [] none p0 pn (fun e => absurd rfl e) z
  obtain ⟨D, a, b, e⟩ := this
  rw [if_pos rfl] at e
  exact ⟨D, a, b, e⟩
theorem SC_pC (hn : ∀ p, n ≤ p → c p = -1) {G : Int → CR} (w : wC n G) (g : SC hp la x n G) : SC hp la x n (pC c G) := fun p p0 pn z => by
  have := SC_zC hn (j := 124) (op := 12) (by omega) (Or.inr rfl) (wC_pB hn w) (SC_pB hn w g) 200 p [] none p0 pn (fun e => absurd rfl e) z
  obtain ⟨D, a, b, e⟩ := this
  rw [if_pos rfl] at e
  exact ⟨D, a, b, e⟩
theorem SC_pQ (hn : ∀ p, n ≤ p → c p = -1) : ∀ j : Nat, j ≤ 7 → SC hp la x n (pQ c j)
  | 0, _ => fun p _ _ z => by rw [pQ] at z; simp at z
  | j + 1, hj => fun p p0 pn => by
    have g := SC_pQ hn j (by omega)
    have gc := SC_pC hn (wC_pQ hn j) g
    rw [pQ_s, pQ1]
    by_cases q : c p = 33
    · rw [if_pos q]
      have lt := c_lt hn (p := p) (by omega)
      by_cases j0 : j = 0
      · rw [if_pos j0]; intro z; simp only [] at z; omega
      rw [if_neg j0]
      by_cases z : (pQ c j (p + 1)).1 = 0
      · rw [if_neg (by omega)]
        intro _
        obtain ⟨D, e1, e2, e3⟩ := g (p + 1) (by omega) (by omega) z
        refine ⟨_, ?_, Cp_not e2, Cp_not e3⟩
        intro v e
        cases D with
        | none => cases e
        | some u =>
          simp only [Option.elim, Option.some.injEq] at e
          rcases e1 u rfl with rfl | rfl
          · rw [← e]; exact Or.inr (by decide)
          · rw [← e]; exact Or.inl (by decide)
      · rw [if_pos z]; exact fun e => absurd e z
    rw [if_neg q]
    by_cases q2 : c p = 40
    · rw [if_pos q2]
      have lt := c_lt hn (p := p) (by omega)
      by_cases j0 : j = 0
      · rw [if_pos j0]; intro z; simp only [] at z; omega
      rw [if_neg j0]
      by_cases z : (pC c (pQ c j) (p + 1)).1 = 0
      · rw [if_neg (by omega)]
        have W := (wC_pC hn (wC_pQ hn j) (p + 1) (by omega) (by omega)).1 z
        by_cases y : c (pC c (pQ c j) (p + 1)).2.1 = 41
        · rw [if_pos y]; exact fun _ => gc (p + 1) (by omega) (by omega) z
        · rw [if_neg y]; intro e; simp only [] at e; omega
      · rw [if_pos z]; exact fun e => absurd e z
    rw [if_neg q2]
    by_cases z : (pX c (j + 1) p).1 = 0
    · rw [if_neg (by omega)]
      have W := (wE_pX hn (j + 1) p p0 pn).1 z
      by_cases y : Jc (c (pX c (j + 1) p).2.1)
      · rw [if_pos y]
        have lt := c_lt hn (p := (pX c (j + 1) p).2.1) (by omega)
        by_cases u : (pX c (j + 1) ((pX c (j + 1) p).2.1 + 1)).1 = 0
        · rw [if_neg (by omega)]
          intro _
          obtain ⟨D, e⟩ := SE_pX (hp := hp) (la := la) (x := x) hn (j + 1) p p0 pn z
          obtain ⟨E, f⟩ := SE_pX (hp := hp) (la := la) (x := x) hn (j + 1) ((pX c (j + 1) p).2.1 + 1) (by omega) (by omega) u
          have o : oC (c (pX c (j + 1) p).2.1) = 7 ∨ oC (c (pX c (j + 1) p).2.1) = 8 ∨ oC (c (pX c (j + 1) p).2.1) = 9 := by
            rcases y with y | y | y <;> rw [y] <;> decide
          have C := Cp_bin (op := oC (c (pX c (j + 1) p).2.1)) e f (by omega) (by omega)
          refine ⟨_, ?_, Cp_mono C (by omega), Cp_mono C (by omega)⟩
          intro v ev
          cases D with
          | none => cases ev
          | some d1 =>
            cases E with
            | none => cases ev
            | some d2 =>
              simp only [Option.elim] at ev
              unfold jO at ev
              rcases o with o | o | o
              all_goals (rw [o] at ev; simp only [Int.reduceEq, if_false, if_true, Option.some.injEq] at ev; rw [← ev]; split <;> omega)
        · rw [if_pos u]; exact fun e => absurd e u
      · rw [if_neg y]; intro e; simp only [] at e; omega
    · rw [if_pos z]; exact fun e => absurd e z
/-- what a rule's code comes to: the amount, the condition -/
def uM (us : RU) (hp la : Int) : Int := (exl hp la 0 us.2.1 []).getD 0
def uC (us : RU) (hp la x : Int) : Int := (exl hp la x us.2.2.1 []).getD 0
/-- a rule that has a meaning -/
def uok (u : RU) : Prop := (u.1 = 109 ∨ u.1 = 102) ∧ (∀ hp la, u.1 = 109 → exl hp la 0 u.2.1 [] = some (uM u hp la)) ∧ ∀ hp la x, exl hp la x u.2.2.1 [] = some (uC u hp la x) ∧ exl hp la x u.2.2.2 [] = some (uC u hp la x) ∧ (uC u hp la x = 0 ∨ uC u hp la x = 1)
theorem uok_r (hn : ∀ p, n ≤ p → c p = -1) {p : Int} {q : Nat} (p0 : 0 ≤ p) (pn : p ≤ n) (z : pR4 c q p = 0) : uok (pRu c p) := by
  obtain ⟨y1, y2, y3, y4, y5, y6, y7, y8, y9⟩ := wR hn p0 pn z
  refine ⟨y2, fun hp la e => ?_, fun hp la x => ?_⟩
  · have e' : c p = 109 := e
    have er : pRe c p = pX c 7 (p + 1) := by unfold pRe; rw [if_pos e']
    rw [er] at y4
    obtain ⟨D, f⟩ := SE_pX (hp := hp) (la := la) (x := 0) hn 7 (p + 1) (by omega) (by omega) y4
    have g := Cp_0 f (by omega)
    have g2 : exl hp la 0 (pRu c p).2.1 [] = some (D.elim 0 id) := by show exl hp la 0 (pRe c p).2.2 [] = _; rw [er]; exact g
    rw [g2]; unfold uM; rw [g2]; rfl
  · obtain ⟨D, b, f1, f2⟩ := SC_pC (hp := hp) (la := la) (x := x) hn (wC_pQ hn 6) (SC_pQ hn 6 (by omega)) ((pRe c p).2.1 + 1) (by omega) (by omega) y7
    have g1 : exl hp la x (pRu c p).2.2.1 [] = some (D.elim 0 id) := Cp_0 f1 (by omega)
    have g2 : exl hp la x (pRu c p).2.2.2 [] = some (D.elim 0 id) := Cp_0 f2 (by omega)
    unfold uC
    rw [g1, g2]
    refine ⟨rfl, rfl, ?_⟩
    cases D with
    | none => exact Or.inl rfl
    | some v => exact b v rfl
theorem uok_s (hn : ∀ p, n ≤ p → c p = -1) : ∀ (m q : Nat) (p : Int), 0 ≤ p → p ≤ n → (pRs c n m q p).1 = 0 → ∀ u, u ∈ (pRs c n m q p).2 → uok u
  | 0, q, p, p0, pn, z => by rw [pRs] at z; simp at z
  | m + 1, q, p, p0, pn, z => by
    rw [pRs] at z ⊢
    by_cases y : pR4 c q p = 0
    · rw [if_neg (by omega)] at z ⊢
      obtain ⟨y1, y2, y3, y4, y5, y6, y7, y8, y9⟩ := wR hn p0 pn y
      have k := uok_r hn p0 pn y
      have pp : 0 ≤ pRp c p := by unfold pRp; omega
      by_cases e : n ≤ pRp c p
      · rw [if_pos e]
        intro u hu
        rw [List.mem_singleton] at hu; rw [hu]; exact k
      · rw [if_neg e] at z ⊢
        by_cases e2 : c (pRp c p) = 59
        · rw [if_pos e2] at z ⊢
          by_cases e3 : (pRs c n m (q + 1) (pRp c p + 1)).1 = 0
          · rw [if_neg (by omega)]
            intro u hu
            rcases List.mem_cons.1 hu with rfl | hu
            · exact k
            · exact uok_s hn m (q + 1) (pRp c p + 1) (by omega) (by omega) e3 u hu
          · rw [if_pos e3] at z; exact absurd z e3
        · rw [if_neg e2] at z; simp only [] at z; omega
    · rw [if_pos y] at z; exact absurd z y
end CP
