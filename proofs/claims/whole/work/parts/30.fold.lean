/-! ===== folds over x, x + 1, ..; tables by recursion on the heap ===== -/
def fo {α : Type} (f : α → Int → α) : α → Int → Nat → α
  | a, _, 0 => a
  | a, x, n + 1 => fo f (f a x) (x + 1) n
theorem fo_congr {α : Type} {f g : α → Int → α} : ∀ {n : Nat} {a : α} {x : Int}, (∀ a y, x ≤ y → y < x + n → f a y = g a y) → fo f a x n = fo g a x n
  | 0, _, _, _ => rfl
  | n + 1, a, x, e => by
    rw [fo, fo, e a x (by omega) (by omega)]
    exact fo_congr (fun a y h0 h1 => e a y (by omega) (by omega))
theorem fo_inv {α : Type} {f : α → Int → α} (P : α → Int → Prop) : ∀ {n : Nat} {a : α} {x : Int}, P a x → (∀ a y, x ≤ y → y < x + n → P a y → P (f a y) (y + 1)) → P (fo f a x n) (x + n)
  | 0, a, x, p, _ => by simpa [fo] using p
  | n + 1, a, x, p, e => by
    rw [fo, show x + ((n + 1 : Nat) : Int) = (x + 1) + (n : Int) by omega]
    exact fo_inv P (e a x (by omega) (by omega) p) (fun a y h0 h1 => e a y (by omega) (by omega))
theorem fo_rel {α β : Type} {f : α → Int → α} {g : β → Int → β} (R : α → β → Int → Prop) : ∀ {n : Nat} {a : α} {b : β} {x : Int}, R a b x → (∀ a b y, x ≤ y → y < x + n → R a b y → R (f a y) (g b y) (y + 1)) → R (fo f a x n) (fo g b x n) (x + n)
  | 0, a, b, x, p, _ => by simpa [fo] using p
  | n + 1, a, b, x, p, e => by
    rw [fo, fo, show x + ((n + 1 : Nat) : Int) = (x + 1) + (n : Int) by omega]
    exact fo_rel R (e a b x (by omega) (by omega) p) (fun a b y h0 h1 => e a b y (by omega) (by omega))
def recF {α : Type} (z : α) (stp : (Int → Int → α) → Int → Int → α) : Nat → Int → Int → α
  | 0, _, _ => z
  | n + 1, h, t => stp (recF z stp n) h t
/-- a step that looks at smaller heaps alone -/
def locS {α : Type} (stp : (Int → Int → α) → Int → Int → α) : Prop := ∀ f g h t, (∀ x, 1 ≤ x → x ≤ h → f (h - x) x = g (h - x) x) → stp f h t = stp g h t
theorem recF_fuel {α : Type} {z : α} {stp : (Int → Int → α) → Int → Int → α} (l : locS stp) : ∀ (n m : Nat) (h t : Int), h < n → h < m → 0 ≤ h → recF z stp n h t = recF z stp m h t
  | 0, _, h, t, h1, _, h0 => by omega
  | _, 0, h, t, _, h2, h0 => by omega
  | n + 1, m + 1, h, t, h1, h2, h0 => l _ _ _ _ (fun x x0 x1 => recF_fuel l n m (h - x) x (by omega) (by omega) (by omega))
theorem rec_eq {α : Type} {z : α} {stp : (Int → Int → α) → Int → Int → α} (l : locS stp) {h t : Int} (h0 : 0 ≤ h) (h1 : h ≤ 40) : recF z stp 41 h t = stp (recF z stp 41) h t :=
  l (recF z stp 40) _ h t (fun x x0 x1 => recF_fuel l 40 41 (h - x) x (by omega) (by omega) (by omega))
/-- the better of two lengths; 0: none yet -/
def cb (hur : Bool) (best here : Int) : Int := if best = 0 ∨ (if hur = true then here < best else best < here) then here else best
def mSet (T G : Int → Int → BitVec 64) (kind h t : Int) : BitVec 64 := if kind = 0 ∧ G h t ≠ 0#64 then G h t else T h t
def mHur (G : Int → Int → BitVec 64) (kind h t : Int) : Bool := decide (kind = 0 ∧ G h t ≠ 0#64 ∨ kind = 1)
def mStep (T G : Int → Int → BitVec 64) (kind : Int) (f : Int → Int → Int) (h t : Int) : Int :=
  fo (fun a x => if hasb (mSet T G kind h t) x = true then cb (mHur G kind h t) a (f (h - x) x + 1) else a) 0 1 h.toNat
theorem mStep_loc {T G : Int → Int → BitVec 64} {kind : Int} : locS (mStep T G kind) := by
  intro f g h t e
  refine fo_congr (fun a y h0 h1 => ?_)
  rw [e y (by omega) (by omega)]
/-- how long it lasts: kind 0 by who plays well, 1 at the soonest, 2 at the latest -/
def LEN (T G : Int → Int → BitVec 64) (kind : Int) : Int → Int → Int := recF 0 (mStep T G kind) 41
theorem LEN_eq {T G : Int → Int → BitVec 64} {kind h t : Int} (h0 : 0 ≤ h) (h1 : h ≤ 40) : LEN T G kind h t = mStep T G kind (LEN T G kind) h t := rec_eq mStep_loc h0 h1
theorem LEN_rng {T G : Int → Int → BitVec 64} {kind : Int} : ∀ (n : Nat) (h t : Int), h < n → 0 ≤ h → h ≤ 40 → 0 ≤ LEN T G kind h t ∧ LEN T G kind h t ≤ h := by
  intro n
  induction n with
  | zero => intro h t h1 h0 _; omega
  | succ n ih =>
    intro h t h1 h0 h2
    rw [LEN_eq h0 h2, mStep]
    refine fo_inv (fun a _ => 0 ≤ a ∧ a ≤ h) (by omega) (fun a y y0 y1 p => ?_)
    have := ih (h - y) y (by omega) (by omega) (by omega)
    split
    · unfold cb; split <;> omega
    · exact p
theorem LEN_r {T G : Int → Int → BitVec 64} {kind h t : Int} (h0 : 0 ≤ h) (h1 : h ≤ 40) : 0 ≤ LEN T G kind h t ∧ LEN T G kind h t ≤ h := LEN_rng 41 h t (by omega) h0 h1
