theorem dh_rg {f : Nat → Bool} {a n k : Nat} (h : (List.range' a n).all f = true) (h1 : a ≤ k) (h2 : k < a + n) : f k = true := List.all_eq_true.mp h k (by rw [List.mem_range'_1]; exact ⟨h1, h2⟩)
theorem dh_ckm : ∀ k, k < 256 → dh_ckM k = true := by
  intro k hk
  by_cases q0 : k < 20
  · exact dh_rg dh_ckm0 (by omega) (by omega)
  by_cases q1 : k < 40
  · exact dh_rg dh_ckm1 (by omega) (by omega)
  by_cases q2 : k < 60
  · exact dh_rg dh_ckm2 (by omega) (by omega)
  by_cases q3 : k < 80
  · exact dh_rg dh_ckm3 (by omega) (by omega)
  by_cases q4 : k < 100
  · exact dh_rg dh_ckm4 (by omega) (by omega)
  by_cases q5 : k < 120
  · exact dh_rg dh_ckm5 (by omega) (by omega)
  by_cases q6 : k < 140
  · exact dh_rg dh_ckm6 (by omega) (by omega)
  by_cases q7 : k < 160
  · exact dh_rg dh_ckm7 (by omega) (by omega)
  by_cases q8 : k < 180
  · exact dh_rg dh_ckm8 (by omega) (by omega)
  by_cases q9 : k < 200
  · exact dh_rg dh_ckm9 (by omega) (by omega)
  by_cases q10 : k < 220
  · exact dh_rg dh_ckm10 (by omega) (by omega)
  by_cases q11 : k < 240
  · exact dh_rg dh_ckm11 (by omega) (by omega)
  exact dh_rg dh_ckm12 (by omega) (by omega)
theorem dh_ckl_all : ∀ k, k < 40 → dh_ckl k = true := by
  intro k hk
  by_cases q0 : k < 2
  · exact dh_rg dh_ckl0 (by omega) (by omega)
  by_cases q1 : k < 3
  · exact dh_rg dh_ckl1 (by omega) (by omega)
  by_cases q2 : k < 5
  · exact dh_rg dh_ckl2 (by omega) (by omega)
  by_cases q3 : k < 6
  · exact dh_rg dh_ckl3 (by omega) (by omega)
  by_cases q4 : k < 8
  · exact dh_rg dh_ckl4 (by omega) (by omega)
  by_cases q5 : k < 9
  · exact dh_rg dh_ckl5 (by omega) (by omega)
  by_cases q6 : k < 10
  · exact dh_rg dh_ckl6 (by omega) (by omega)
  by_cases q7 : k < 12
  · exact dh_rg dh_ckl7 (by omega) (by omega)
  by_cases q8 : k < 13
  · exact dh_rg dh_ckl8 (by omega) (by omega)
  by_cases q9 : k < 14
  · exact dh_rg dh_ckl9 (by omega) (by omega)
  by_cases q10 : k < 15
  · exact dh_rg dh_ckl10 (by omega) (by omega)
  by_cases q11 : k < 16
  · exact dh_rg dh_ckl11 (by omega) (by omega)
  by_cases q12 : k < 17
  · exact dh_rg dh_ckl12 (by omega) (by omega)
  by_cases q13 : k < 18
  · exact dh_rg dh_ckl13 (by omega) (by omega)
  by_cases q14 : k < 20
  · exact dh_rg dh_ckl14 (by omega) (by omega)
  by_cases q15 : k < 21
  · exact dh_rg dh_ckl15 (by omega) (by omega)
  by_cases q16 : k < 22
  · exact dh_rg dh_ckl16 (by omega) (by omega)
  by_cases q17 : k < 23
  · exact dh_rg dh_ckl17 (by omega) (by omega)
  by_cases q18 : k < 25
  · exact dh_rg dh_ckl18 (by omega) (by omega)
  by_cases q19 : k < 26
  · exact dh_rg dh_ckl19 (by omega) (by omega)
  by_cases q20 : k < 31
  · exact dh_rg dh_ckl20 (by omega) (by omega)
  by_cases q21 : k < 32
  · exact dh_rg dh_ckl21 (by omega) (by omega)
  by_cases q22 : k < 34
  · exact dh_rg dh_ckl22 (by omega) (by omega)
  exact dh_rg dh_ckl23 (by omega) (by omega)
