def dh_bl (mn : Nat) : Nat → List dh_RI := fun b => (dh_pt.getD mn []).getD b []
def dh_nL (mn : Nat) : Nat := match dh_mt[mn]? with
  | some mi => mi.2.2.1
  | none => 0
/-- method mn, called with as at the heap h, at most d calls deep, ends with Q -/
def dh_wpM : Nat → dh_C
  | 0, _, _, _, _ => False
  | d + 1, mn, as, h, Q => (dh_sl as).length ≤ dh_nL mn ∧ dh_wp dh_sh (dh_wpM d) (dh_bl mn) Q 0 (dh_en (dh_nL mn) as) [] h
theorem dh_wpM_mono : ∀ d, dh_mono (dh_wpM d)
  | 0 => fun _ _ _ _ _ _ h => h
  | d + 1 => fun _ _ _ _ _ hQ h => ⟨h.1, dh_wp_mono (dh_wpM_mono d) hQ h.2⟩
