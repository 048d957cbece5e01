/-! ===== what isn't a place stays ===== -/
def hpO : dh_O → dh_AH
  | .inl o => o.2.2
  | .inr (.inl o) => o.2.2.2
  | .inr (.inr (.inl o)) => o.2
  | .inr (.inr (.inr o)) => o.2.2.2.2
section SC
variable {p0 : Nat}
theorem ui_off {h : dh_AH} {p k : Nat} {v : Int} (q : p ≠ p0) : (dh_ui h p k v).1 p0 = h.1 p0 := by
  funext k'; exact if_neg (fun z => q z.1.symm)
theorem ua_off {h : dh_AH} {p : Nat} {f : Nat → Int} (q : p ≠ p0) : (dh_ua h p f).1 p0 = h.1 p0 := if_neg (fun z => q z.symm)
theorem sh_ne {sh : Nat → Option (Nat × Nat × Nat × Nat)} (hn : sh p0 = none) {p : Nat} {s : Nat × Nat × Nat × Nat} (e : sh p = some s) : p ≠ p0 := by
  intro z; rw [z, hn] at e; cases e
set_option maxHeartbeats 4000000 in
theorem do_off {sh : Nat → Option (Nat × Nat × Nat × Nat)} (hn : sh p0 = none) {r : dh_RI} {ls : dh_LS} {st : List dh_V} {h : dh_AH} {o : dh_O} : dh_do sh r ls st h = some o → (hpO o).1 p0 = h.1 p0 := by
  unfold dh_do dh_oN dh_oJ dh_oR dh_oC
  repeat' split
  all_goals (intro e; first | (cases e; done) | (cases e; rfl) | (cases e; exact ui_off (sh_ne hn (by assumption))) | (cases e; exact ua_off (sh_ne hn (by assumption))) | (cases e; rename_i q; exact ui_off (sh_ne hn q.1)))
def offC (p0 : Nat) (C : dh_C) : Prop := ∀ mn as h (Q : Option dh_V → dh_AH → Prop), C mn as h Q → C mn as h (fun v h' => Q v h' ∧ h'.1 p0 = h.1 p0)
theorem wpB_off {sh : Nat → Option (Nat × Nat × Nat × Nat)} (hn : sh p0 = none) {C : dh_C} (hm : dh_mono C) (hC : offC p0 C) {K : Nat → dh_LS → List dh_V → dh_AH → Prop} {R : Option dh_V → dh_AH → Prop} {f : Nat → Int} : ∀ (rs : List dh_RI) (ls : dh_LS) (st : List dh_V) (h : dh_AH), h.1 p0 = f → dh_wpB sh C K R rs ls st h → dh_wpB sh C (fun b ls st h => K b ls st h ∧ h.1 p0 = f) (fun v h => R v h ∧ h.1 p0 = f) rs ls st h := by
  intro rs
  induction rs with
  | nil => intro ls st h hf q; exact q
  | cons r rs ih =>
    intro ls st h hf q
    unfold dh_wpB at q ⊢
    have e : ∀ o, dh_do sh r ls st h = some o → (hpO o).1 p0 = h.1 p0 := fun o => do_off hn
    match dh_do sh r ls st h, q, e with
    | some (.inl o), q, e => exact ih _ _ _ ((e _ rfl).trans hf) q
    | some (.inr (.inl o)), q, e => exact ⟨q, (e _ rfl).trans hf⟩
    | some (.inr (.inr (.inl o))), q, e => exact ⟨q, (e _ rfl).trans hf⟩
    | some (.inr (.inr (.inr o))), q, e => exact hm _ _ _ _ _ (fun v h' z => ih _ _ _ (z.2.trans ((e _ rfl).trans hf)) z.1) (hC _ _ _ _ q)
theorem wp_off {sh : Nat → Option (Nat × Nat × Nat × Nat)} (hn : sh p0 = none) {C : dh_C} (hm : dh_mono C) (hC : offC p0 C) {bl : Nat → List dh_RI} {Q : Option dh_V → dh_AH → Prop} {b : Nat} {ls : dh_LS} {st : List dh_V} {h : dh_AH} {f : Nat → Int} (hf : h.1 p0 = f) (q : dh_wp sh C bl Q b ls st h) : dh_wp sh C bl (fun v h' => Q v h' ∧ h'.1 p0 = f) b ls st h :=
  q (fun b ls st h => h.1 p0 = f → dh_wp sh C bl (fun v h' => Q v h' ∧ h'.1 p0 = f) b ls st h) (fun b ls st h k hf => dh_wp_go hm (dh_wpB_mono hm (fun _ _ _ _ z => z.1 z.2) (fun _ _ z => z) _ _ _ _ (wpB_off hn hm hC _ _ _ _ hf k))) hf
theorem wpM_off (hn : dh_sh p0 = none) : ∀ d, offC p0 (dh_wpM d)
  | 0 => fun _ _ _ _ h => h
  | d + 1 => fun _ _ _ _ h => ⟨h.1, wp_off hn (dh_wpM_mono d) (wpM_off hn d) rfl h.2⟩
end SC
