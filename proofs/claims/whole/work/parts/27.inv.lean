/-! ===== the invariant between the class's cells and the reference's ===== -/
def isL (h : dh_AH) (l : Int) : Bool := (BitVec.ofInt 64 (h.1 147 7)).getLsbD l.toNat
def isG (h : dh_AH) (g : Int) : Bool := (BitVec.ofInt 64 (h.1 147 8)).getLsbD g.toNat
/-- the sum of the first n -/
def sm (f : Nat → Int) : Nat → Int
  | 0 => 0
  | n + 1 => sm f n + f n
theorem sm_congr {f g : Nat → Int} : ∀ {n : Nat}, (∀ i, i < n → g i = f i) → sm g n = sm f n
  | 0, _ => rfl
  | n + 1, e => by rw [sm, sm, sm_congr (fun i hi => e i (by omega)), e n (by omega)]
theorem sm_ge {f : Nat → Int} : ∀ {n : Nat}, (∀ i, i < n → 1 ≤ f i) → (n : Int) ≤ sm f n
  | 0, _ => by simp [sm]
  | n + 1, e => by have a := sm_ge (n := n) (fun i hi => e i (by omega)); have b := e n (by omega); rw [sm]; omega
theorem sm_mono {f : Nat → Int} : ∀ {n m : Nat}, (∀ i, i < n → 1 ≤ f i) → m ≤ n → sm f m ≤ sm f n
  | 0, m, _, hm => by have : m = 0 := by omega
                      subst this; omega
  | n + 1, m, e, hm => by
    by_cases q : m = n + 1
    · subst q; omega
    · have a := sm_mono (n := n) (m := m) (fun i hi => e i (by omega)) (by omega); have b := e n (by omega); rw [sm]; omega
/-- a law's own: what the class has of it, what the reference has -/
def Lw (l : Int) (h : dh_AH) : Prop := LT (80 + l.toNat * 10) (tk h l) h ∧ LO (80 + l.toNat * 10) (gd h l) h ∧ TG (tk h l) (gd h l) ∧ (∀ hp la, 0 ≤ hp → hp ≤ 40 → 0 ≤ la → la ≤ 40 → ∀ i : Nat, (tk h l hp la).getLsbD i = true → 1 ≤ i ∧ (i : Int) ≤ hp) ∧ h.2 150 l.toNat = losN (gd h l) ∧ h.1 (80 + l.toNat * 10 + 1) 6 = h.1 151 l.toNat
def iLaw (h : dh_AH) : Prop := (0 ≤ h.1 147 7 ∧ h.1 147 7 ≤ 15) ∧ ∀ l, 0 ≤ l → l ≤ 3 → h.1 (80 + l.toNat * 10) 1 = (if isL h l = true then 1 else 0) ∧ (isL h l = true → Lw l h)
def iTape (h : dh_AH) : Prop := (0 ≤ h.1 147 10 ∧ h.1 147 10 ≤ 260) ∧ h.1 3 1 = h.1 147 10 ∧ ∀ i : Nat, i < 260 → h.1 4 i = h.1 155 i % 256
/-- the heap ahead of take i of game g -/
def gh (h : dh_AH) (g : Int) (i : Nat) : Int := h.1 152 g.toNat - sm (fun j => h.1 154 (40 * g.toNat + j)) i
def Gm (g : Int) (h : dh_AH) : Prop := (0 ≤ h.1 152 g.toNat ∧ h.1 152 g.toNat ≤ 40) ∧ (0 ≤ h.1 153 g.toNat ∧ h.1 153 g.toNat ≤ 40) ∧ h.1 (120 + g.toNat * 3) 1 = h.1 152 g.toNat ∧ h.1 (120 + g.toNat * 3) 2 = h.1 153 g.toNat ∧ ∀ i : Nat, (i : Int) < h.1 153 g.toNat → h.1 (120 + g.toNat * 3 + 1) i = h.1 154 (40 * g.toNat + i) ∧ h.1 (120 + g.toNat * 3 + 2) i = gh h g i ∧ 1 ≤ h.1 154 (40 * g.toNat + i) ∧ h.1 154 (40 * g.toNat + i) ≤ gh h g i
def iGame (h : dh_AH) : Prop := (0 ≤ h.1 147 8 ∧ h.1 147 8 ≤ 511) ∧ ∀ g, 0 ≤ g → g ≤ 8 → h.1 (120 + g.toNat * 3) 0 = (if isG h g = true then 1 else 0) ∧ (isG h g = true → Gm g h)
/-- a game by the stove: the reference's (its law, first heap, takes), the class's (law, heap, last, takes) -/
def St (law first many : Int) (tr : Nat → Int) (cl ch ca cs : Int) (ct : Nat → Int) : Prop := (0 ≤ law ∧ law ≤ 3) ∧ (0 ≤ first ∧ first ≤ 40) ∧ (0 ≤ many ∧ many ≤ 40) ∧ (∀ i : Nat, (i : Int) < many → 1 ≤ tr i ∧ ct i = tr i) ∧ 0 ≤ first - sm tr many.toNat ∧ cl = law ∧ ch = first - sm tr many.toNat ∧ ca = (if many = 0 then 0 else tr (many - 1).toNat) ∧ cs = many
def iStove (h : dh_AH) : Prop := St (h.1 147 46) (h.1 147 47) (h.1 147 48) (h.1 179) (h.1 76 0) (h.1 76 1) (h.1 76 2) (h.1 76 3) (h.1 77)
def iKept (h : dh_AH) : Prop := h.1 0 11 = h.1 147 57 ∧ (h.1 147 57 = 0 ∨ h.1 147 57 = 1) ∧ (h.1 147 57 = 1 → (St (h.1 147 52) (h.1 147 53) (h.1 147 54) (h.1 180) (h.1 78 0) (h.1 78 1) (h.1 78 2) (h.1 78 3) (h.1 79) ∧ h.1 0 13 = h.1 147 55 ∧ 0 ≤ h.1 147 55 ∧ h.1 147 55 ≤ 65535))
def iDraw (h : dh_AH) : Prop := h.1 0 12 = h.1 147 49 ∧ 0 ≤ h.1 147 49 ∧ h.1 147 49 ≤ 65535
/-- the takes 1 to m -/
def upb (m : Int) : BitVec 64 := (1#64 <<< (dh_wr (m + 1) % 64).toNat) - 2#64
/-- of the simple law t m: of each heap below n what may have been taken so that the other has lost -/
def siL (t m : Int) : Nat → Int → BitVec 64
  | 0 => fun _ => 0#64
  | n + 1 => fun hp => if hp = n then st1 (fun x => decide (siL t m n (n - x) &&& upb (min (n - x) (t * x + m)) = 0#64)) n else siL t m n hp
def smp (t m : Int) : BitVec 64 := st1 (fun x => decide (siL t m 41 x &&& upb (x - 1) = 0#64)) 40
def iSimp (h : dh_AH) : Prop := ∀ i : Nat, i < 25 → h.2 73 i = 0#64 ∨ h.2 73 i = smp ((i / 5 : Nat) : Int) ((i % 5 : Nat) : Int)
def Inv (h : dh_AH) : Prop := iLaw h ∧ iTape h ∧ iGame h ∧ iStove h ∧ iKept h ∧ iDraw h ∧ iSimp h
theorem lsh {l : Int} (h0 : 0 ≤ l) (h1 : l ≤ 3) : LSh (80 + l.toNat * 10) := by
  have : l = 0 ∨ l = 1 ∨ l = 2 ∨ l = 3 := by omega
  rcases this with rfl | rfl | rfl | rfl <;> exact ⟨rfl, ⟨rfl, rfl, rfl, rfl, rfl, rfl, rfl⟩, rfl, rfl⟩
section FRI
variable {S : Nat → Nat → Prop} {h h' : dh_AH}
/-- what is outside the changed -/
def off (S F : Nat → Nat → Prop) : Prop := ∀ p k, F p k → ¬ S p k
theorem fr1 {F : Nat → Nat → Prop} (f : fr S h h') (o : off S F) {p k : Nat} (q : F p k) : h'.1 p k = h.1 p k := f.1 p k (o p k q)
theorem fr2 {F : Nat → Nat → Prop} (f : fr S h h') (o : off S F) {p k : Nat} (q : F p k) : h'.2 p k = h.2 p k := f.2 p k (o p k q)
abbrev F_law : Nat → Nat → Prop := fun p k => 80 ≤ p ∧ p < 120 ∨ p = 147 ∧ k = 7 ∨ 148 ≤ p ∧ p ≤ 151
abbrev F_lawT : Nat → Nat → Prop := fun p k => p = 147 ∧ k = 7 ∨ 148 ≤ p ∧ p ≤ 151
theorem tk_fr (f : fr S h h') (o : off S F_lawT) : tk h' = tk h := by
  funext l hp la; exact fr2 f o (by omega)
theorem gd_fr (f : fr S h h') (o : off S F_lawT) : gd h' = gd h := by
  funext l hp la; exact fr2 f o (by omega)
theorem isL_fr (f : fr S h h') (o : off S F_lawT) : isL h' = isL h := by
  funext l; unfold isL; rw [fr1 f o (by omega)]
theorem Lw_fr (f : fr S h h') (o : off S F_law) {l : Int} (h0 : 0 ≤ l) (h1 : l ≤ 3) (w : Lw l h) : Lw l h' := by
  have o' : off S F_lawT := fun p k z => o p k (by omega)
  unfold Lw at w ⊢
  rw [tk_fr f o', gd_fr f o', fr2 f o (by omega), fr1 f o (p := 80 + l.toNat * 10 + 1) (by omega), fr1 f o (p := 151) (by omega)]
  exact ⟨LT_gen f (fun q k z => Decidable.byContradiction (fun n => o q k (by omega) z)) w.1, LO_gen f (fun q k z => Decidable.byContradiction (fun n => o q k (by omega) z)) w.2.1, w.2.2.1, w.2.2.2.1, w.2.2.2.2.1, w.2.2.2.2.2⟩
theorem iLaw_fr (f : fr S h h') (o : off S F_law) (w : iLaw h) : iLaw h' := by
  have o' : off S F_lawT := fun p k z => o p k (by omega)
  refine ⟨by rw [fr1 f o (by omega)]; exact w.1, fun l h0 h1 => ?_⟩
  rw [isL_fr f o', fr1 f o (by omega)]
  exact ⟨(w.2 l h0 h1).1, fun e => Lw_fr f o h0 h1 ((w.2 l h0 h1).2 e)⟩
/-- in the cells of the laws alone law l's caches have changed -/
theorem iLaw_c {l : Int} (h0 : 0 ≤ l) (h1 : l ≤ 3) (f : fr (sL (80 + l.toNat * 10)) h h') (t : LT (80 + l.toNat * 10) (tk h l) h') (lo : LO (80 + l.toNat * 10) (gd h l) h') (w : iLaw h) : iLaw h' := by
  have o' : off (sL (80 + l.toNat * 10)) F_lawT := fun p k z => by omega
  refine ⟨by rw [fr1 f o' (by omega)]; exact w.1, fun l' g0 g1 => ?_⟩
  rw [isL_fr f o', f.1 _ _ (by omega)]
  refine ⟨(w.2 l' g0 g1).1, fun e => ?_⟩
  have w' := (w.2 l' g0 g1).2 e
  by_cases q : l' = l
  · subst q
    unfold Lw at w' ⊢
    rw [tk_fr f o', gd_fr f o', fr2 f o' (by omega), f.1 (80 + l'.toNat * 10 + 1) _ (by omega), f.1 151 _ (by omega)]
    exact ⟨t, lo, w'.2.2⟩
  · unfold Lw at w' ⊢
    rw [tk_fr f o', gd_fr f o', fr2 f o' (by omega), f.1 (80 + l'.toNat * 10 + 1) _ (by omega), f.1 151 _ (by omega)]
    exact ⟨LT_gen f (fun q k z => by omega) w'.1, LO_gen f (fun q k z => by omega) w'.2.1, w'.2.2.1, w'.2.2.2.1, w'.2.2.2.2.1, w'.2.2.2.2.2⟩
abbrev F_tape : Nat → Nat → Prop := fun p k => p = 147 ∧ k = 10 ∨ p = 3 ∧ k = 1 ∨ p = 4 ∨ p = 155
theorem iTape_fr (f : fr S h h') (o : off S F_tape) (w : iTape h) : iTape h' := by
  unfold iTape at w ⊢
  rw [fr1 f o (by omega), fr1 f o (p := 3) (by omega)]
  exact ⟨w.1, w.2.1, fun i hi => by rw [fr1 f o (by omega), fr1 f o (p := 155) (by omega)]; exact w.2.2 i hi⟩
abbrev F_game : Nat → Nat → Prop := fun p k => 120 ≤ p ∧ p < 147 ∨ p = 147 ∧ k = 8 ∨ p = 152 ∨ p = 153 ∨ p = 154
theorem gh_fr (f : fr S h h') (o : off S F_game) : gh h' = gh h := by
  funext g i
  unfold gh
  rw [fr1 f o (by omega), show (fun j => h'.1 154 (40 * g.toNat + j)) = (fun j => h.1 154 (40 * g.toNat + j)) from funext (fun j => fr1 f o (by omega))]
theorem Gm_fr (f : fr S h h') (o : off S F_game) {g : Int} (h0 : 0 ≤ g) (h1 : g ≤ 8) (w : Gm g h) : Gm g h' := by
  unfold Gm at w ⊢
  rw [gh_fr f o, fr1 f o (p := 152) (by omega), fr1 f o (p := 153) (by omega), fr1 f o (p := 120 + g.toNat * 3) (k := 1) (by omega), fr1 f o (p := 120 + g.toNat * 3) (k := 2) (by omega)]
  exact ⟨w.1, w.2.1, w.2.2.1, w.2.2.2.1, fun i hi => by rw [fr1 f o (by omega), fr1 f o (p := 120 + g.toNat * 3 + 2) (by omega), fr1 f o (p := 154) (by omega)]; exact w.2.2.2.2 i hi⟩
theorem isG_fr (f : fr S h h') (o : off S F_game) : isG h' = isG h := by
  funext l; unfold isG; rw [fr1 f o (by omega)]
theorem iGame_fr (f : fr S h h') (o : off S F_game) (w : iGame h) : iGame h' := by
  refine ⟨by rw [fr1 f o (by omega)]; exact w.1, fun g h0 h1 => ?_⟩
  rw [isG_fr f o, fr1 f o (by omega)]
  exact ⟨(w.2 g h0 h1).1, fun e => Gm_fr f o h0 h1 ((w.2 g h0 h1).2 e)⟩
abbrev F_stove : Nat → Nat → Prop := fun p k => p = 76 ∨ p = 77 ∨ p = 147 ∧ (k = 46 ∨ k = 47 ∨ k = 48) ∨ p = 179
theorem iStove_fr (f : fr S h h') (o : off S F_stove) (w : iStove h) : iStove h' := by
  unfold iStove at w ⊢
  rw [fr1 f o (p := 147) (k := 46) (by omega), fr1 f o (p := 147) (k := 47) (by omega), fr1 f o (p := 147) (k := 48) (by omega), fr1 f o (p := 76) (k := 0) (by omega), fr1 f o (p := 76) (k := 1) (by omega), fr1 f o (p := 76) (k := 2) (by omega), fr1 f o (p := 76) (k := 3) (by omega), show h'.1 179 = h.1 179 from funext (fun k => fr1 f o (by omega)), show h'.1 77 = h.1 77 from funext (fun k => fr1 f o (by omega))]
  exact w
abbrev F_kept : Nat → Nat → Prop := fun p k => p = 78 ∨ p = 79 ∨ p = 147 ∧ (52 ≤ k ∧ k ≤ 55 ∨ k = 57) ∨ p = 180 ∨ p = 0 ∧ (k = 11 ∨ k = 13)
theorem iKept_fr (f : fr S h h') (o : off S F_kept) (w : iKept h) : iKept h' := by
  unfold iKept at w ⊢
  rw [fr1 f o (p := 147) (k := 52) (by omega), fr1 f o (p := 147) (k := 53) (by omega), fr1 f o (p := 147) (k := 54) (by omega), fr1 f o (p := 147) (k := 55) (by omega), fr1 f o (p := 147) (k := 57) (by omega), fr1 f o (p := 78) (k := 0) (by omega), fr1 f o (p := 78) (k := 1) (by omega), fr1 f o (p := 78) (k := 2) (by omega), fr1 f o (p := 78) (k := 3) (by omega), fr1 f o (p := 0) (k := 11) (by omega), fr1 f o (p := 0) (k := 13) (by omega), show h'.1 180 = h.1 180 from funext (fun k => fr1 f o (by omega)), show h'.1 79 = h.1 79 from funext (fun k => fr1 f o (by omega))]
  exact w
abbrev F_draw : Nat → Nat → Prop := fun p k => p = 0 ∧ k = 12 ∨ p = 147 ∧ k = 49
theorem iDraw_fr (f : fr S h h') (o : off S F_draw) (w : iDraw h) : iDraw h' := by
  unfold iDraw at w ⊢
  rw [fr1 f o (p := 0) (k := 12) (by omega), fr1 f o (p := 147) (k := 49) (by omega)]
  exact w
abbrev F_simp : Nat → Nat → Prop := fun p _ => p = 73
theorem iSimp_fr (f : fr S h h') (o : off S F_simp) (w : iSimp h) : iSimp h' := fun i hi => by rw [fr2 f o rfl]; exact w i hi
/-- cells that the invariant doesn't speak of -/
abbrev sX : Nat → Nat → Prop := fun p k => 5 ≤ p ∧ p < 73 ∨ p = 74 ∨ p = 75 ∨ p = 147 ∧ (11 ≤ k ∧ k ≤ 18 ∨ k = 35 ∨ 43 ≤ k ∧ k ≤ 45 ∨ k = 51) ∨ 156 ≤ p ∧ p ≤ 178
theorem Inv_X (f : fr sX h h') (I : Inv h) : Inv h' :=
  ⟨iLaw_fr f (fun p k z => by omega) I.1, iTape_fr f (fun p k z => by omega) I.2.1, iGame_fr f (fun p k z => by omega) I.2.2.1, iStove_fr f (fun p k z => by omega) I.2.2.2.1, iKept_fr f (fun p k z => by omega) I.2.2.2.2.1, iDraw_fr f (fun p k z => by omega) I.2.2.2.2.2.1, iSimp_fr f (fun p k z => by omega) I.2.2.2.2.2.2⟩
end FRI
