/-! ===== an instruction of the class file as a step of the abstract machine ===== -/
def dh_ix : List Nat → Nat → Option Nat
  | [], _ => none
  | a :: t, x => if a = x then some 0 else (dh_ix t x).map (· + 1)
theorem dh_ix_at : ∀ (l : List Nat) (x b : Nat), dh_ix l x = some b → l[b]? = some x
  | [], _, _, h => by simp [dh_ix] at h
  | a :: t, x, b, h => by
    unfold dh_ix at h
    split at h
    · rename_i e; cases h; simp [e]
    · cases q : dh_ix t x with
      | none => simp [q] at h
      | some b' => simp [q] at h; subst h; simpa using dh_ix_at t x b' q
def dh_tgt (bp : List Nat) (pc : Nat) (off : Int) : Option Nat := if 0 ≤ (pc : Int) + off then dh_ix bp ((pc : Int) + off).toNat else none
theorem dh_tgt_at {bp : List Nat} {pc : Nat} {off : Int} {b : Nat} (h : dh_tgt bp pc off = some b) : ∃ t : Nat, bp[b]? = some t ∧ (pc : Int) + off = (t : Int) := by
  unfold dh_tgt at h
  split at h
  · rename_i h0
    exact ⟨_, dh_ix_at _ _ _ h, by omega⟩
  · cases h
def dh_cc : ClassFile.Cond → Nat
  | .eq => 0
  | .ne => 1
  | .lt => 2
  | .ge => 3
  | .gt => 4
  | .le => 5
def dh_ff (own idx : Nat) : Option (Nat × Nat × Nat × Nat × Nat) := dh_fl.find? (fun e => e.1 == own && e.2.1 == idx)
def dh_mf (own idx : Nat) : Option (Nat × Nat × Nat × Nat × Nat) := dh_ml.find? (fun e => e.1 == own && e.2.1 == idx)
def dh_cf (own idx : Nat) : Option (Nat × Nat × Int × Nat) := dh_cl.find? (fun e => e.1 == own && e.2.1 == idx)
def dh_lf (own idx : Nat) : Option (Nat × Nat × Int × Nat) := dh_ll.find? (fun e => e.1 == own && e.2.1 == idx)
def dh_hf (own idx : Nat) : Option (Nat × Nat × Nat × Nat) := dh_hl.find? (fun e => e.1 == own && e.2.1 == idx)
def dh_yf (own idx : Nat) : Option (Nat × Nat × Nat) := dh_yl.find? (fun e => e.1 == own && e.2.1 == idx)
/-- the pairs of a switch, with blocks for offsets -/
def dh_prs (bp : List Nat) (pc : Nat) : List (Int × Int) → Option (List (Int × Nat))
  | [] => some []
  | (k, o) :: t => match dh_tgt bp pc o, dh_prs bp pc t with
    | some b, some l => some ((k, b) :: l)
    | _, _ => none
def dh_lows (lo : Int) : List Int → List (Int × Int)
  | [] => []
  | o :: t => (lo, o) :: dh_lows (lo + 1) t
