/-! ===== the invariant at the start ===== -/
theorem Inv_start {h : dh_AH} (e1 : ∀ p k, ¬ (p = 0 ∧ (k = 12 ∨ k = 13) ∨ p = 147 ∧ k = 49 ∨ 1000 ≤ p) → h.1 p k = 0) (e2 : h.1 0 12 = 1) (e3 : h.1 147 49 = 1) (e4 : ∀ p k, h.2 p k = 0#64) : Inv h := by
  have L : ∀ l, isL h l = false := fun l => by unfold isL; rw [e1 _ _ (by omega)]; exact BitVec.getLsbD_zero
  have G : ∀ l, isG h l = false := fun l => by unfold isG; rw [e1 _ _ (by omega)]; exact BitVec.getLsbD_zero
  refine ⟨⟨?_, fun l h0 h1 => ⟨?_, fun e => ?_⟩⟩, ⟨?_, ?_, fun i hi => ?_⟩, ⟨?_, fun g h0 h1 => ⟨?_, fun e => ?_⟩⟩, ?_, ⟨?_, ?_, fun e => ?_⟩, ⟨?_, ?_⟩, fun i hi => Or.inl (e4 _ _)⟩
  · rw [e1 _ _ (by omega)]; omega
  · rw [e1 _ _ (by omega), L]; rfl
  · rw [L] at e; exact absurd e (by decide)
  · rw [e1 _ _ (by omega)]; omega
  · rw [e1 _ _ (by omega), e1 _ _ (by omega)]
  · rw [e1 _ _ (by omega), e1 _ _ (by omega)]; rfl
  · rw [e1 _ _ (by omega)]; omega
  · rw [e1 _ _ (by omega), G]; rfl
  · rw [G] at e; exact absurd e (by decide)
  · unfold iStove St
    rw [e1 147 46 (by omega), e1 147 47 (by omega), e1 147 48 (by omega), e1 76 0 (by omega), e1 76 1 (by omega), e1 76 2 (by omega), e1 76 3 (by omega)]
    exact ⟨by omega, by omega, by omega, fun i hi => by omega, by rw [show (0 : Int).toNat = 0 from rfl, sm]; omega, rfl, by rw [show (0 : Int).toNat = 0 from rfl, sm]; rfl, rfl, rfl⟩
  · rw [e1 _ _ (by omega), e1 _ _ (by omega)]
  · left; exact e1 _ _ (by omega)
  · rw [e1 _ _ (by omega)] at e; omega
  · rw [e2, e3]
  · rw [e3]; omega
