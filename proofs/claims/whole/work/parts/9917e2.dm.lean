/-! ===== the reference's object: its world, cell by cell ===== -/
def dh_r2 : Nat → Nat → Int32 := fun p k => if p = 0 ∧ k = 49 then 1 else 0
def sg_Model : List (Nat × Nat × Nat × Nat) := [(0, 11, 0, 0), (2, 6724, 0, 0), (2, 6724, 0, 0), (2, 4, 0, 0), (1, 4, 0, 0), (1, 9, 0, 0), (1, 9, 0, 0), (1, 360, 0, 0), (3, 260, 0, 0), (1, 260, 0, 0), (1, 260, 0, 0), (1, 8, 0, 0), (1, 8, 0, 0), (1, 8, 0, 0), (1, 8, 0, 0), (1, 260, 0, 0), (1, 3, 0, 0), (1, 40, 0, 0), (1, 1681, 0, 0), (1, 1681, 0, 0), (1, 1681, 0, 0), (2, 1681, 0, 0), (2, 1681, 0, 0), (1, 40, 0, 0), (1, 8643, 0, 0), (4, 18081, 0, 0), (4, 35301, 0, 0), (4, 1681, 0, 0), (4, 1681, 0, 0), (4, 6724, 0, 0), (1, 1681, 0, 0), (1, 1681, 0, 0), (1, 40, 0, 0), (1, 40, 0, 0)]
def dh_mi {α β : Type} (f : Nat → α → β) : Nat → List α → List β
  | _, [] => []
  | k, a :: l => f k a :: dh_mi f (k + 1) l
theorem dh_mi_go {α β : Type} : ∀ (l : List α) (f : Nat → α → β) (k : Nat), l.mapIdx (fun i => f (k + i)) = dh_mi f k l
  | [], f, k => by simp [dh_mi]
  | a :: l, f, k => by
    rw [List.mapIdx_cons, dh_mi, ← dh_mi_go l f (k + 1), Nat.add_zero]
    congr 2
    funext i
    rw [show k + (i + 1) = k + 1 + i by omega]
theorem dh_mi_eq {α β : Type} {l : List α} {f : Nat → α → β} : l.mapIdx f = dh_mi f 0 l := by
  rw [← dh_mi_go l f 0]
  congr 1
  funext i
  rw [Nat.zero_add]
theorem dm_r2 {k : Nat} (k0 : k ≠ 0) : dh_r2 k = fun _ => 0 := by
  funext j
  unfold dh_r2
  rw [if_neg (fun e => k0 e.1)]
theorem dm_c {α β : Type} {f : Nat → α → β} {k : Nat} {s : α} {t : List α} {a : β} {l : List β} (h1 : f k s = a) (h2 : dh_sgG f (k + 1) t = l) : dh_sgG f k (s :: t) = a :: l := by rw [dh_sgG, h1, h2]
theorem dm_m {α β : Type} {f : Nat → α → β} {k : Nat} {s : α} {t : List α} {a : β} {l : List β} (h1 : f k s = a) (h2 : dh_mi f (k + 1) t = l) : dh_mi f k (s :: t) = a :: l := by rw [dh_mi, h1, h2]
section DM
variable {ta : Nat → ClassId} {as : List Nat} {k n a j : Nat}
theorem dm_1 (k0 : k ≠ 0) (e : as.getD k 0 = a) : ((as.getD k 0, dh_e (fun j => as.getD j 0) ta dh_r2 (fun _ _ => 0) k (1, n, 0, 0)) : Nat × va_E) = (a, .inl (ta 1, (n, .inl (fun _ => 0)))) := by
  rw [e]
  show ((a, .inl (ta 1, n, .inl (dh_r2 k))) : Nat × va_E) = _
  rw [dm_r2 k0]
theorem dm_3 (k0 : k ≠ 0) (e : as.getD k 0 = a) : ((as.getD k 0, dh_e (fun j => as.getD j 0) ta dh_r2 (fun _ _ => 0) k (3, n, 0, 0)) : Nat × va_E) = (a, .inl (ta 3, (n, .inl (fun _ => 0)))) := by
  rw [e]
  show ((a, .inl (ta 3, n, .inl (dh_r2 k))) : Nat × va_E) = _
  rw [dm_r2 k0]
theorem dm_4 (k0 : k ≠ 0) (e : as.getD k 0 = a) : ((as.getD k 0, dh_e (fun j => as.getD j 0) ta dh_r2 (fun _ _ => 0) k (4, n, 0, 0)) : Nat × va_E) = (a, .inl (ta 4, (n, .inl (fun _ => 0)))) := by
  rw [e]
  show ((a, .inl (ta 4, n, .inl (dh_r2 k))) : Nat × va_E) = _
  rw [dm_r2 k0]
theorem dm_2 (e : as.getD k 0 = a) : ((as.getD k 0, dh_e (fun j => as.getD j 0) ta dh_r2 (fun _ _ => 0) k (2, n, 0, 0)) : Nat × va_E) = (a, .inl (ta 2, (n, .inr (.inl (fun _ => 0))))) := by
  rw [e]
  rfl
theorem dm_i {t m : Nat} (h : t ≠ 3) (hj : j ≠ 49) : (if ((t, m) : Nat × Nat).1 = 3 then Value.ref (as.getD (0 + ((t, m) : Nat × Nat).2) 0) else .int (dh_r2 0 j)) = .int 0 := by
  rw [if_neg h]
  unfold dh_r2
  rw [if_neg (fun e => hj e.2)]
theorem dm_1i {t m : Nat} (h : t ≠ 3) (hj : j = 49) : (if ((t, m) : Nat × Nat).1 = 3 then Value.ref (as.getD (0 + ((t, m) : Nat × Nat).2) 0) else .int (dh_r2 0 j)) = .int 1 := by
  rw [if_neg h]
  unfold dh_r2
  rw [if_pos ⟨rfl, hj⟩]
theorem dm_f {m : Nat} (e : as.getD (0 + m) 0 = a) : (if ((3, m) : Nat × Nat).1 = 3 then Value.ref (as.getD (0 + ((3, m) : Nat × Nat).2) 0) else .int (dh_r2 0 j)) = .ref a := by
  rw [if_pos rfl]
  exact congrArg Value.ref e
theorem dm_0 {ci b c : Nat} {F : List Value} (e : dh_mi (fun j f => if f.1 = 3 then Value.ref (as.getD (0 + f.2) 0) else .int (dh_r2 0 j)) 0 (dh_fk ci) = F) (ea : as.getD 0 0 = a) : ((as.getD 0 0, dh_e (fun j => as.getD j 0) ta dh_r2 (fun _ _ => 0) 0 (0, ci, b, c)) : Nat × va_E) = (a, .inr (ci, F)) := by
  rw [← e, ← dh_mi_eq, ea]
  rfl
end DM
theorem dm_fk : dh_fk 11 = [(3, 1), (3, 2), (3, 3), (3, 4), (3, 5), (3, 6), (3, 7), (0, 0), (0, 0), (3, 8), (0, 0), (0, 0), (0, 0), (0, 0), (0, 0), (0, 0), (0, 0), (0, 0), (0, 0), (3, 9), (3, 10), (3, 11), (3, 12), (3, 13), (3, 14), (3, 15), (3, 16), (3, 17), (3, 18), (3, 19), (3, 20), (3, 21), (3, 22), (3, 23), (3, 24), (0, 0), (3, 25), (3, 26), (3, 27), (3, 28), (3, 29), (3, 30), (3, 31), (0, 0), (0, 0), (0, 0), (0, 0), (0, 0), (0, 0), (0, 0), (3, 32), (0, 0), (0, 0), (0, 0), (0, 0), (0, 0), (3, 33), (1, 0)] := by decide +kernel
set_option maxRecDepth 100000 in
theorem dm_F {h0 q1 q2 q3 q4 q5 q6 q7 q8 q9 q10 q11 q12 q13 q14 q15 q16 q17 q18 q19 q20 q21 q22 q23 q24 q25 q26 q27 q28 q29 q30 q31 q32 q33 : Nat} : dh_mi (fun j f => if f.1 = 3 then Value.ref ((h0 :: [q1, q2, q3, q4, q5, q6, q7, q8, q9, q10, q11, q12, q13, q14, q15, q16, q17, q18, q19, q20, q21, q22, q23, q24, q25, q26, q27, q28, q29, q30, q31, q32, q33]).getD (0 + f.2) 0) else .int (dh_r2 0 j)) 0 (dh_fk 11) = [.ref q1, .ref q2, .ref q3, .ref q4, .ref q5, .ref q6, .ref q7, .int 0, .int 0, .ref q8, .int 0, .int 0, .int 0, .int 0, .int 0, .int 0, .int 0, .int 0, .int 0, .ref q9, .ref q10, .ref q11, .ref q12, .ref q13, .ref q14, .ref q15, .ref q16, .ref q17, .ref q18, .ref q19, .ref q20, .ref q21, .ref q22, .ref q23, .ref q24, .int 0, .ref q25, .ref q26, .ref q27, .ref q28, .ref q29, .ref q30, .ref q31, .int 0, .int 0, .int 0, .int 0, .int 0, .int 0, .int 1, .ref q32, .int 0, .int 0, .int 0, .int 0, .int 0, .ref q33, .int 0] := by
  rw [dm_fk]
  refine dm_m (dm_f rfl) ?_
  refine dm_m (dm_f rfl) ?_
  refine dm_m (dm_f rfl) ?_
  refine dm_m (dm_f rfl) ?_
  refine dm_m (dm_f rfl) ?_
  refine dm_m (dm_f rfl) ?_
  refine dm_m (dm_f rfl) ?_
  refine dm_m (dm_i (by decide) (by decide)) ?_
  refine dm_m (dm_i (by decide) (by decide)) ?_
  refine dm_m (dm_f rfl) ?_
  refine dm_m (dm_i (by decide) (by decide)) ?_
  refine dm_m (dm_i (by decide) (by decide)) ?_
  refine dm_m (dm_i (by decide) (by decide)) ?_
  refine dm_m (dm_i (by decide) (by decide)) ?_
  refine dm_m (dm_i (by decide) (by decide)) ?_
  refine dm_m (dm_i (by decide) (by decide)) ?_
  refine dm_m (dm_i (by decide) (by decide)) ?_
  refine dm_m (dm_i (by decide) (by decide)) ?_
  refine dm_m (dm_i (by decide) (by decide)) ?_
  refine dm_m (dm_f rfl) ?_
  refine dm_m (dm_f rfl) ?_
  refine dm_m (dm_f rfl) ?_
  refine dm_m (dm_f rfl) ?_
  refine dm_m (dm_f rfl) ?_
  refine dm_m (dm_f rfl) ?_
  refine dm_m (dm_f rfl) ?_
  refine dm_m (dm_f rfl) ?_
  refine dm_m (dm_f rfl) ?_
  refine dm_m (dm_f rfl) ?_
  refine dm_m (dm_f rfl) ?_
  refine dm_m (dm_f rfl) ?_
  refine dm_m (dm_f rfl) ?_
  refine dm_m (dm_f rfl) ?_
  refine dm_m (dm_f rfl) ?_
  refine dm_m (dm_f rfl) ?_
  refine dm_m (dm_i (by decide) (by decide)) ?_
  refine dm_m (dm_f rfl) ?_
  refine dm_m (dm_f rfl) ?_
  refine dm_m (dm_f rfl) ?_
  refine dm_m (dm_f rfl) ?_
  refine dm_m (dm_f rfl) ?_
  refine dm_m (dm_f rfl) ?_
  refine dm_m (dm_f rfl) ?_
  refine dm_m (dm_i (by decide) (by decide)) ?_
  refine dm_m (dm_i (by decide) (by decide)) ?_
  refine dm_m (dm_i (by decide) (by decide)) ?_
  refine dm_m (dm_i (by decide) (by decide)) ?_
  refine dm_m (dm_i (by decide) (by decide)) ?_
  refine dm_m (dm_i (by decide) (by decide)) ?_
  refine dm_m (dm_1i (by decide) rfl) ?_
  refine dm_m (dm_f rfl) ?_
  refine dm_m (dm_i (by decide) (by decide)) ?_
  refine dm_m (dm_i (by decide) (by decide)) ?_
  refine dm_m (dm_i (by decide) (by decide)) ?_
  refine dm_m (dm_i (by decide) (by decide)) ?_
  refine dm_m (dm_i (by decide) (by decide)) ?_
  refine dm_m (dm_f rfl) ?_
  refine dm_m (dm_i (by decide) (by decide)) ?_
  rfl
set_option maxRecDepth 100000 in
theorem dm_all {ta : Nat → ClassId} {h0 q1 q2 q3 q4 q5 q6 q7 q8 q9 q10 q11 q12 q13 q14 q15 q16 q17 q18 q19 q20 q21 q22 q23 q24 q25 q26 q27 q28 q29 q30 q31 q32 q33 : Nat} : dh_sg ta sg_Model dh_r2 (h0 :: [q1, q2, q3, q4, q5, q6, q7, q8, q9, q10, q11, q12, q13, q14, q15, q16, q17, q18, q19, q20, q21, q22, q23, q24, q25, q26, q27, q28, q29, q30, q31, q32, q33]) = (h0, .inr (11, [.ref q1, .ref q2, .ref q3, .ref q4, .ref q5, .ref q6, .ref q7, .int 0, .int 0, .ref q8, .int 0, .int 0, .int 0, .int 0, .int 0, .int 0, .int 0, .int 0, .int 0, .ref q9, .ref q10, .ref q11, .ref q12, .ref q13, .ref q14, .ref q15, .ref q16, .ref q17, .ref q18, .ref q19, .ref q20, .ref q21, .ref q22, .ref q23, .ref q24, .int 0, .ref q25, .ref q26, .ref q27, .ref q28, .ref q29, .ref q30, .ref q31, .int 0, .int 0, .int 0, .int 0, .int 0, .int 0, .int 1, .ref q32, .int 0, .int 0, .int 0, .int 0, .int 0, .ref q33, .int 0])) :: [(q1, .inl (ta 2, (6724, .inr (.inl (fun _ => 0))))), (q2, .inl (ta 2, (6724, .inr (.inl (fun _ => 0))))), (q3, .inl (ta 2, (4, .inr (.inl (fun _ => 0))))), (q4, .inl (ta 1, (4, .inl (fun _ => 0)))), (q5, .inl (ta 1, (9, .inl (fun _ => 0)))), (q6, .inl (ta 1, (9, .inl (fun _ => 0)))), (q7, .inl (ta 1, (360, .inl (fun _ => 0)))), (q8, .inl (ta 3, (260, .inl (fun _ => 0)))), (q9, .inl (ta 1, (260, .inl (fun _ => 0)))), (q10, .inl (ta 1, (260, .inl (fun _ => 0)))), (q11, .inl (ta 1, (8, .inl (fun _ => 0)))), (q12, .inl (ta 1, (8, .inl (fun _ => 0)))), (q13, .inl (ta 1, (8, .inl (fun _ => 0)))), (q14, .inl (ta 1, (8, .inl (fun _ => 0)))), (q15, .inl (ta 1, (260, .inl (fun _ => 0)))), (q16, .inl (ta 1, (3, .inl (fun _ => 0)))), (q17, .inl (ta 1, (40, .inl (fun _ => 0)))), (q18, .inl (ta 1, (1681, .inl (fun _ => 0)))), (q19, .inl (ta 1, (1681, .inl (fun _ => 0)))), (q20, .inl (ta 1, (1681, .inl (fun _ => 0)))), (q21, .inl (ta 2, (1681, .inr (.inl (fun _ => 0))))), (q22, .inl (ta 2, (1681, .inr (.inl (fun _ => 0))))), (q23, .inl (ta 1, (40, .inl (fun _ => 0)))), (q24, .inl (ta 1, (8643, .inl (fun _ => 0)))), (q25, .inl (ta 4, (18081, .inl (fun _ => 0)))), (q26, .inl (ta 4, (35301, .inl (fun _ => 0)))), (q27, .inl (ta 4, (1681, .inl (fun _ => 0)))), (q28, .inl (ta 4, (1681, .inl (fun _ => 0)))), (q29, .inl (ta 4, (6724, .inl (fun _ => 0)))), (q30, .inl (ta 1, (1681, .inl (fun _ => 0)))), (q31, .inl (ta 1, (1681, .inl (fun _ => 0)))), (q32, .inl (ta 1, (40, .inl (fun _ => 0)))), (q33, .inl (ta 1, (40, .inl (fun _ => 0))))] := by
  unfold dh_sg sg_Model
  refine dm_c (dm_0 dm_F rfl) ?_
  refine dm_c (dm_2 rfl) ?_
  refine dm_c (dm_2 rfl) ?_
  refine dm_c (dm_2 rfl) ?_
  refine dm_c (dm_1 (by decide) rfl) ?_
  refine dm_c (dm_1 (by decide) rfl) ?_
  refine dm_c (dm_1 (by decide) rfl) ?_
  refine dm_c (dm_1 (by decide) rfl) ?_
  refine dm_c (dm_3 (by decide) rfl) ?_
  refine dm_c (dm_1 (by decide) rfl) ?_
  refine dm_c (dm_1 (by decide) rfl) ?_
  refine dm_c (dm_1 (by decide) rfl) ?_
  refine dm_c (dm_1 (by decide) rfl) ?_
  refine dm_c (dm_1 (by decide) rfl) ?_
  refine dm_c (dm_1 (by decide) rfl) ?_
  refine dm_c (dm_1 (by decide) rfl) ?_
  refine dm_c (dm_1 (by decide) rfl) ?_
  refine dm_c (dm_1 (by decide) rfl) ?_
  refine dm_c (dm_1 (by decide) rfl) ?_
  refine dm_c (dm_1 (by decide) rfl) ?_
  refine dm_c (dm_1 (by decide) rfl) ?_
  refine dm_c (dm_2 rfl) ?_
  refine dm_c (dm_2 rfl) ?_
  refine dm_c (dm_1 (by decide) rfl) ?_
  refine dm_c (dm_1 (by decide) rfl) ?_
  refine dm_c (dm_4 (by decide) rfl) ?_
  refine dm_c (dm_4 (by decide) rfl) ?_
  refine dm_c (dm_4 (by decide) rfl) ?_
  refine dm_c (dm_4 (by decide) rfl) ?_
  refine dm_c (dm_4 (by decide) rfl) ?_
  refine dm_c (dm_1 (by decide) rfl) ?_
  refine dm_c (dm_1 (by decide) rfl) ?_
  refine dm_c (dm_1 (by decide) rfl) ?_
  refine dm_c (dm_1 (by decide) rfl) ?_
  rfl
