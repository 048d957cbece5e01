/-! ===== heaps of the abstract machine: what a write leaves; frames ===== -/
section HP
variable {h h' h'' : dh_AH} {p p' k k' : Nat} {v : Int} {u : BitVec 64} {f : Nat → Int}
theorem ui_s : (dh_ui h p k v).1 p k = v := if_pos ⟨rfl, rfl⟩
theorem ui_p (q : p' ≠ p) : (dh_ui h p k v).1 p' k' = h.1 p' k' := if_neg (fun e => q e.1)
theorem ui_k (q : k' ≠ k) : (dh_ui h p k v).1 p' k' = h.1 p' k' := if_neg (fun e => q e.2)
theorem ui_2 : (dh_ui h p k v).2 = h.2 := id rfl
theorem ul_1 : (dh_ul h p k u).1 = h.1 := id rfl
theorem ul_s : (dh_ul h p k u).2 p k = u := if_pos ⟨rfl, rfl⟩
theorem ul_p (q : p' ≠ p) : (dh_ul h p k u).2 p' k' = h.2 p' k' := if_neg (fun e => q e.1)
theorem ul_k (q : k' ≠ k) : (dh_ul h p k u).2 p' k' = h.2 p' k' := if_neg (fun e => q e.2)
theorem ua_s : (dh_ua h p f).1 p = f := if_pos rfl
theorem ua_p (q : p' ≠ p) : (dh_ua h p f).1 p' = h.1 p' := if_neg q
theorem ua_2 : (dh_ua h p f).2 = h.2 := id rfl
/-- outside S nothing has changed -/
def fr (S : Nat → Nat → Prop) (h h' : dh_AH) : Prop := (∀ p k, ¬ S p k → h'.1 p k = h.1 p k) ∧ ∀ p k, ¬ S p k → h'.2 p k = h.2 p k
variable {S S' : Nat → Nat → Prop}
theorem fr_refl : fr S h h := ⟨fun _ _ _ => rfl, fun _ _ _ => rfl⟩
theorem fr_trans (a : fr S h h') (b : fr S h' h'') : fr S h h'' := ⟨fun p k q => (b.1 p k q).trans (a.1 p k q), fun p k q => (b.2 p k q).trans (a.2 p k q)⟩
theorem fr_mono (a : fr S h h') (q : ∀ p k, S p k → S' p k) : fr S' h h' := ⟨fun p k z => a.1 p k (fun y => z (q p k y)), fun p k z => a.2 p k (fun y => z (q p k y))⟩
theorem fr_ui (q : S p k) : fr S h (dh_ui h p k v) := ⟨fun p' k' z => if_neg (fun e => z (by rw [e.1, e.2]; exact q)), fun _ _ _ => rfl⟩
theorem fr_ul (q : S p k) : fr S h (dh_ul h p k u) := ⟨fun _ _ _ => rfl, fun p' k' z => if_neg (fun e => z (by rw [e.1, e.2]; exact q))⟩
theorem fr_ua (q : ∀ k, S p k) : fr S h (dh_ua h p f) := ⟨fun p' k' z => congrFun (if_neg (fun e => z (by rw [e]; exact q k'))) k', fun _ _ _ => rfl⟩
end HP
theorem wp_ite {sh : Nat → Option (Nat × Nat × Nat × Nat)} {C : dh_C} {bl : Nat → List dh_RI} {Q : Option dh_V → dh_AH → Prop} {a b : Nat} {ls : dh_LS} {st : List dh_V} {h : dh_AH} {c : Prop} [Decidable c] : dh_wp sh C bl Q (if c then a else b) ls st h = if c then dh_wp sh C bl Q a ls st h else dh_wp sh C bl Q b ls st h := by
  by_cases q : c <;> simp [q]
theorem oi_m1 : BitVec.ofInt 64 (-1) = 18446744073709551615#64 := by decide
theorem sw_c {k x : Int} {b d : Nat} {t : List (Int × Nat)} : dh_sw ((k, b) :: t) d x = if x = k then b else dh_sw t d x := id rfl
theorem sw_n {x : Int} {d : Nat} : dh_sw [] d x = d := id rfl
/-! ===== the reference's readers ===== -/
def tk (h : dh_AH) (l heap last : Int) : BitVec 64 := h.2 148 (1681 * l + 41 * heap + last).toNat
def gd (h : dh_AH) (l heap last : Int) : BitVec 64 := h.2 149 (1681 * l + 41 * heap + last).toNat
section RD
variable {d : Nat} {Q : Option dh_V → dh_AH → Prop} {h : dh_AH} {b : BitVec 64} {x y z l : Int}
theorem c_takesOf (h0 : 0 ≤ l) (h1 : l ≤ 3) (h2 : 0 ≤ x) (h3 : x ≤ 40) (h4 : 0 ≤ y) (h5 : y ≤ 40) : dh_wpM (d + 2) 157 [.inr (.inr (some 147)), .inl l, .inl x, .inl y] h Q = Q (some (.inr (.inl (tk h l x y)))) h := by
  rw [m157]
  (simp only [u157_0, bk157_0, c_at, sh147, sh148, tk, wb_ldi, wb_ldl, wb_ldr, wb_iinc, wb_sti, wb_str, wb_stl, wb_ci, wb_cl, wb_i0, wb_i1, wb_i2, wb_i5, wb_i6, wb_i7, wb_i8, wb_i9, wb_i3, wb_i4, wb_l0, wb_l1, wb_l2, wb_l5, wb_l6, wb_l3, wb_l4, wb_s0, wb_s1, wb_s2, wb_i2l, wb_l2i, wb_i2b, wb_lcmp, wb_dupi, wb_dupr, wb_popi, wb_popr, wb_ic0, wb_if0, wb_ic1, wb_if1, wb_ic2, wb_if2, wb_ic3, wb_if3, wb_ic4, wb_if4, wb_ic5, wb_if5, wb_nu0, wb_nu1, wb_nn0, wb_nn1, wb_go, wb_fall, wb_ri, wb_rl, wb_rr, wb_rz, wb_rv, wb_gi, wb_gr, wb_pi, aK_s, aN_s, aZ_s, k18_1, k18_8, k34_3, k34_4, k1_1, k2_2, k128_1, k128_2, k128_8, k567_5, k567_6, k567_7, wb_iald, wb_bald, wb_lald, wb_aald, wb_iast, wb_last, wb_bast, wb_len, wb_null, wb_sw, wb_cs1, wb_cs2, wb_cs3, wb_cs4, wb_cs5, wb_cs6, wb_cs7, wb_cv0, wb_cv1, wb_cv2, wb_cv3, wb_cv4, wb_cv5, wb_cv6, wb_m0, wb_m1, wb_m2, wb_m3, ws_0, ws_i, ws_l, ws_r, kI_s, kL_s, kR_s, lg_0, lg_s, ls_0, ls_s, ik_i, ik_l, ik_r, ik_n, kl_0, kl_s, dh_st1, dh_st2, Option.toList_some, Option.toList_none, List.cons_append, List.nil_append, Bool.false_eq_true, if_false, if_true, true_and, and_true, true_or, or_true, Nat.zero_le, Nat.reduceAdd, Nat.reduceLeDiff, ↓reduceIte, Int.reduceEq, Int.reduceLT, Int.reduceLE, Int.reduceNe, Int.reduceToNat, Int.reduceNeg, Nat.reduceEqDiff, ui_s, ui_2, ul_1, ul_s, wp_ite, sw_c, sw_n, oi_0, oi_1, oi_m1, lc_eq, lc_ne, b01_eq0, b01_ne0, b01_ok, b01_01, z_01, o_01, ne_eq, not_true, not_false_eq_true, imp_self, implies_true, false_implies]; try simp (discharger := omega) only [↓if_pos, ↓if_neg, and_iff_right, dh_wr_id, ui_s, ui_p, ui_k, ui_2, ul_1, ul_s, ul_p, ul_k, true_and, and_true, not_true, not_false_eq_true, imp_self, implies_true, false_implies])
theorem c_goodOf (h0 : 0 ≤ l) (h1 : l ≤ 3) (h2 : 0 ≤ x) (h3 : x ≤ 40) (h4 : 0 ≤ y) (h5 : y ≤ 40) : dh_wpM (d + 2) 158 [.inr (.inr (some 147)), .inl l, .inl x, .inl y] h Q = Q (some (.inr (.inl (gd h l x y)))) h := by
  rw [m158]
  (simp only [u158_0, bk158_0, c_at, sh147, sh149, gd, wb_ldi, wb_ldl, wb_ldr, wb_iinc, wb_sti, wb_str, wb_stl, wb_ci, wb_cl, wb_i0, wb_i1, wb_i2, wb_i5, wb_i6, wb_i7, wb_i8, wb_i9, wb_i3, wb_i4, wb_l0, wb_l1, wb_l2, wb_l5, wb_l6, wb_l3, wb_l4, wb_s0, wb_s1, wb_s2, wb_i2l, wb_l2i, wb_i2b, wb_lcmp, wb_dupi, wb_dupr, wb_popi, wb_popr, wb_ic0, wb_if0, wb_ic1, wb_if1, wb_ic2, wb_if2, wb_ic3, wb_if3, wb_ic4, wb_if4, wb_ic5, wb_if5, wb_nu0, wb_nu1, wb_nn0, wb_nn1, wb_go, wb_fall, wb_ri, wb_rl, wb_rr, wb_rz, wb_rv, wb_gi, wb_gr, wb_pi, aK_s, aN_s, aZ_s, k18_1, k18_8, k34_3, k34_4, k1_1, k2_2, k128_1, k128_2, k128_8, k567_5, k567_6, k567_7, wb_iald, wb_bald, wb_lald, wb_aald, wb_iast, wb_last, wb_bast, wb_len, wb_null, wb_sw, wb_cs1, wb_cs2, wb_cs3, wb_cs4, wb_cs5, wb_cs6, wb_cs7, wb_cv0, wb_cv1, wb_cv2, wb_cv3, wb_cv4, wb_cv5, wb_cv6, wb_m0, wb_m1, wb_m2, wb_m3, ws_0, ws_i, ws_l, ws_r, kI_s, kL_s, kR_s, lg_0, lg_s, ls_0, ls_s, ik_i, ik_l, ik_r, ik_n, kl_0, kl_s, dh_st1, dh_st2, Option.toList_some, Option.toList_none, List.cons_append, List.nil_append, Bool.false_eq_true, if_false, if_true, true_and, and_true, true_or, or_true, Nat.zero_le, Nat.reduceAdd, Nat.reduceLeDiff, ↓reduceIte, Int.reduceEq, Int.reduceLT, Int.reduceLE, Int.reduceNe, Int.reduceToNat, Int.reduceNeg, Nat.reduceEqDiff, ui_s, ui_2, ul_1, ul_s, wp_ite, sw_c, sw_n, oi_0, oi_1, oi_m1, lc_eq, lc_ne, b01_eq0, b01_ne0, b01_ok, b01_01, z_01, o_01, ne_eq, not_true, not_false_eq_true, imp_self, implies_true, false_implies]; try simp (discharger := omega) only [↓if_pos, ↓if_neg, and_iff_right, dh_wr_id, ui_s, ui_p, ui_k, ui_2, ul_1, ul_s, ul_p, ul_k, true_and, and_true, not_true, not_false_eq_true, imp_self, implies_true, false_implies])
end RD
