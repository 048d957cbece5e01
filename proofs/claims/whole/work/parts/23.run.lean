/-! ===== Rules.run ===== -/
def psh (v : Int) (st : List Int) : List Int := if st.length < 24 then v :: st else st
def jn (sign a b : Int) : Option Int :=
  if sign = 42 then some (dh_wr (a * b)) else if sign = 43 then some (dh_wr (a + b)) else if sign = 45 then some (dh_wr (a - b))
  else if sign = 60 then some (if a < b then 1 else 0) else if sign = 61 then some (if a = b then 1 else 0) else if sign = 62 then some (if b < a then 1 else 0)
  else if b = 0 then none else if sign = 47 then some (dh_wr (a.tdiv b)) else some (a.tmod b)
def runP (sg vl : Nat → Int) (sz hp la x : Int) : Nat → Int → List Int → Int
  | 0, _, _ => 0
  | n + 1, a, st =>
    if a < 0 ∨ sz ≤ a then st.headD 0 else
    if sg a.toNat = 59 then st.headD 0 else
    if sg a.toNat = 33 then runP sg vl sz hp la x n (a + 1) (psh (dh_wr (1 - st.headD 0)) st.tail) else
    if sg a.toNat = 38 then if st.headD 0 = 0 then runP sg vl sz hp la x n (max a (vl a.toNat - 1) + 1) (psh (st.headD 0) st.tail) else runP sg vl sz hp la x n (a + 1) st.tail else
    if sg a.toNat = 48 then runP sg vl sz hp la x n (a + 1) (psh (vl a.toNat) st) else
    if sg a.toNat = 110 then runP sg vl sz hp la x n (a + 1) (psh hp st) else
    if sg a.toNat = 116 then runP sg vl sz hp la x n (a + 1) (psh la st) else
    if sg a.toNat = 120 then runP sg vl sz hp la x n (a + 1) (psh x st) else
    if sg a.toNat = 124 then if st.headD 0 = 1 then runP sg vl sz hp la x n (max a (vl a.toNat - 1) + 1) (psh (st.headD 0) st.tail) else runP sg vl sz hp la x n (a + 1) st.tail else
    match jn (sg a.toNat) (st.tail.headD 0) (st.headD 0) with
    | none => 0
    | some v => runP sg vl sz hp la x n (a + 1) (psh v st.tail.tail)
/-- the scratch of the rules at place r -/
abbrev sR (r : Nat) : Nat → Nat → Prop := fun p k => p = r ∧ (k = 8 ∨ k = 9) ∨ p = r + 6
/-- the stack of the rules at place r -/
def sK (r : Nat) (st : List Int) (h : dh_AH) : Prop := h.1 r 8 = st.length ∧ st.length ≤ 24 ∧ SR (h.1 (r + 6)) st
section RU
variable {d r : Nat} {Q : Option dh_V → dh_AH → Prop} {h : dh_AH} {x y z : Int} {st : List Int}
theorem c_push (s0 : dh_sh r = some (0, 5, 0, 0)) (s6 : dh_sh (r + 6) = some (1, 24, 0, 0)) (hs : sK r st h) (hQ : ∀ h', fr (sR r) h h' → h'.1 r 9 = h.1 r 9 → sK r (psh x st) h' → Q none h') : dh_wpM (d + 1) 53 [.inr (.inr (some r)), .inl x] h Q := by
  rw [m53]
  obtain ⟨e1, e2, e3⟩ := hs
  (simp only [u53_0, bk53_0, u53_1, bk53_1, s0, s6, e1, wb_ldi, wb_ldl, wb_ldr, wb_iinc, wb_sti, wb_str, wb_stl, wb_ci, wb_cl, wb_i0, wb_i1, wb_i2, wb_i5, wb_i6, wb_i7, wb_i8, wb_i9, wb_i3, wb_i4, wb_l0, wb_l1, wb_l2, wb_l5, wb_l6, wb_l3, wb_l4, wb_s0, wb_s1, wb_s2, wb_i2l, wb_l2i, wb_i2b, wb_lcmp, wb_dupi, wb_dupr, wb_popi, wb_popr, wb_ic0, wb_if0, wb_ic1, wb_if1, wb_ic2, wb_if2, wb_ic3, wb_if3, wb_ic4, wb_if4, wb_ic5, wb_if5, wb_nu0, wb_nu1, wb_nn0, wb_nn1, wb_go, wb_fall, wb_ri, wb_rl, wb_rr, wb_rz, wb_rv, wb_gi, wb_gr, wb_pi, aK_s, aN_s, aZ_s, k18_1, k18_8, k34_3, k34_4, k1_1, k2_2, k128_1, k128_2, k128_8, k567_5, k567_6, k567_7, wb_iald, wb_bald, wb_lald, wb_aald, wb_iast, wb_last, wb_bast, wb_len, wb_null, wb_sw, wb_cs1, wb_cs2, wb_cs3, wb_cs4, wb_cs5, wb_cs6, wb_cs7, wb_cv0, wb_cv1, wb_cv2, wb_cv3, wb_cv4, wb_cv5, wb_cv6, wb_m0, wb_m1, wb_m2, wb_m3, ws_0, ws_i, ws_l, ws_r, kI_s, kL_s, kR_s, lg_0, lg_s, ls_0, ls_s, ik_i, ik_l, ik_r, ik_n, kl_0, kl_s, dh_st1, dh_st2, Option.toList_some, Option.toList_none, List.cons_append, List.nil_append, Bool.false_eq_true, if_false, if_true, true_and, and_true, true_or, or_true, Nat.zero_le, Nat.reduceAdd, Nat.reduceLeDiff, ↓reduceIte, Int.reduceEq, Int.reduceLT, Int.reduceLE, Int.reduceNe, Int.reduceToNat, Int.reduceNeg, Nat.reduceEqDiff, ui_s, ui_2, ul_1, ul_s, wp_ite, sw_c, sw_n, oi_0, oi_1, oi_m1, lc_eq, lc_ne, b01_eq0, b01_ne0, b01_ok, b01_01, z_01, o_01, ne_eq, not_true, not_false_eq_true, imp_self, implies_true, false_implies]; try simp (discharger := omega) only [s0, s6, e1, ↓if_pos, ↓if_neg, and_iff_right, dh_wr_id, ui_s, ui_p, ui_k, ui_2, ul_1, ul_s, ul_p, ul_k, true_and, and_true, not_true, not_false_eq_true, imp_self, implies_true, false_implies])
  by_cases hc : st.length < 24
  · rw [if_neg (by omega)]
    refine hQ _ (fr_trans (fr_ui (Or.inr rfl)) (fr_ui (Or.inl ⟨rfl, Or.inl rfl⟩))) (by simp (discharger := omega) only [↓if_pos, ↓if_neg, and_iff_right, dh_wr_id, ui_s, ui_p, ui_k, ui_2, ul_1, ul_s, ul_p, ul_k, true_and, and_true, not_true, not_false_eq_true, imp_self, implies_true, false_implies]) ?_
    rw [psh, if_pos hc]
    refine ⟨by simp (discharger := omega) only [↓if_pos, ↓if_neg, and_iff_right, dh_wr_id, ui_s, ui_p, ui_k, ui_2, ul_1, ul_s, ul_p, ul_k, true_and, and_true, not_true, not_false_eq_true, imp_self, implies_true, false_implies]; simp, by simp; omega, by simp (discharger := omega) only [↓if_pos, ↓if_neg, and_iff_right, dh_wr_id, ui_s, ui_p, ui_k, ui_2, ul_1, ul_s, ul_p, ul_k, true_and, and_true, not_true, not_false_eq_true, imp_self, implies_true, false_implies]; simp [ui_s], ?_⟩
    refine SR_congr (fun k hk => ?_) e3
    simp (discharger := omega) only [↓if_pos, ↓if_neg, and_iff_right, dh_wr_id, ui_s, ui_p, ui_k, ui_2, ul_1, ul_s, ul_p, ul_k, true_and, and_true, not_true, not_false_eq_true, imp_self, implies_true, false_implies]
  · rw [if_pos (by omega)]
    refine hQ _ fr_refl rfl ?_
    rw [psh, if_neg hc]
    exact ⟨e1, e2, e3⟩
theorem c_pop (s0 : dh_sh r = some (0, 5, 0, 0)) (s6 : dh_sh (r + 6) = some (1, 24, 0, 0)) (hs : sK r st h) (hQ : ∀ h', fr (sR r) h h' → h'.1 r 9 = h.1 r 9 → sK r st.tail h' → Q (some (.inl (st.headD 0))) h') : dh_wpM (d + 1) 54 [.inr (.inr (some r))] h Q := by
  rw [m54]
  obtain ⟨e1, e2, e3⟩ := hs
  cases st with
  | nil =>
    (simp only [u54_0, bk54_0, u54_1, bk54_1, u54_2, bk54_2, s0, s6, e1, List.length_nil, wb_ldi, wb_ldl, wb_ldr, wb_iinc, wb_sti, wb_str, wb_stl, wb_ci, wb_cl, wb_i0, wb_i1, wb_i2, wb_i5, wb_i6, wb_i7, wb_i8, wb_i9, wb_i3, wb_i4, wb_l0, wb_l1, wb_l2, wb_l5, wb_l6, wb_l3, wb_l4, wb_s0, wb_s1, wb_s2, wb_i2l, wb_l2i, wb_i2b, wb_lcmp, wb_dupi, wb_dupr, wb_popi, wb_popr, wb_ic0, wb_if0, wb_ic1, wb_if1, wb_ic2, wb_if2, wb_ic3, wb_if3, wb_ic4, wb_if4, wb_ic5, wb_if5, wb_nu0, wb_nu1, wb_nn0, wb_nn1, wb_go, wb_fall, wb_ri, wb_rl, wb_rr, wb_rz, wb_rv, wb_gi, wb_gr, wb_pi, aK_s, aN_s, aZ_s, k18_1, k18_8, k34_3, k34_4, k1_1, k2_2, k128_1, k128_2, k128_8, k567_5, k567_6, k567_7, wb_iald, wb_bald, wb_lald, wb_aald, wb_iast, wb_last, wb_bast, wb_len, wb_null, wb_sw, wb_cs1, wb_cs2, wb_cs3, wb_cs4, wb_cs5, wb_cs6, wb_cs7, wb_cv0, wb_cv1, wb_cv2, wb_cv3, wb_cv4, wb_cv5, wb_cv6, wb_m0, wb_m1, wb_m2, wb_m3, ws_0, ws_i, ws_l, ws_r, kI_s, kL_s, kR_s, lg_0, lg_s, ls_0, ls_s, ik_i, ik_l, ik_r, ik_n, kl_0, kl_s, dh_st1, dh_st2, Option.toList_some, Option.toList_none, List.cons_append, List.nil_append, Bool.false_eq_true, if_false, if_true, true_and, and_true, true_or, or_true, Nat.zero_le, Nat.reduceAdd, Nat.reduceLeDiff, ↓reduceIte, Int.reduceEq, Int.reduceLT, Int.reduceLE, Int.reduceNe, Int.reduceToNat, Int.reduceNeg, Nat.reduceEqDiff, ui_s, ui_2, ul_1, ul_s, wp_ite, sw_c, sw_n, oi_0, oi_1, oi_m1, lc_eq, lc_ne, b01_eq0, b01_ne0, b01_ok, b01_01, z_01, o_01, ne_eq, not_true, not_false_eq_true, imp_self, implies_true, false_implies]; try simp (discharger := omega) only [s0, s6, e1, List.length_nil, ↓if_pos, ↓if_neg, and_iff_right, dh_wr_id, ui_s, ui_p, ui_k, ui_2, ul_1, ul_s, ul_p, ul_k, true_and, and_true, not_true, not_false_eq_true, imp_self, implies_true, false_implies])
    exact hQ _ fr_refl rfl ⟨e1, e2, e3⟩
  | cons v t =>
    simp only [List.length_cons] at e1 e2
    (simp only [u54_0, bk54_0, u54_1, bk54_1, u54_2, bk54_2, s0, s6, e1, List.length_cons, wb_ldi, wb_ldl, wb_ldr, wb_iinc, wb_sti, wb_str, wb_stl, wb_ci, wb_cl, wb_i0, wb_i1, wb_i2, wb_i5, wb_i6, wb_i7, wb_i8, wb_i9, wb_i3, wb_i4, wb_l0, wb_l1, wb_l2, wb_l5, wb_l6, wb_l3, wb_l4, wb_s0, wb_s1, wb_s2, wb_i2l, wb_l2i, wb_i2b, wb_lcmp, wb_dupi, wb_dupr, wb_popi, wb_popr, wb_ic0, wb_if0, wb_ic1, wb_if1, wb_ic2, wb_if2, wb_ic3, wb_if3, wb_ic4, wb_if4, wb_ic5, wb_if5, wb_nu0, wb_nu1, wb_nn0, wb_nn1, wb_go, wb_fall, wb_ri, wb_rl, wb_rr, wb_rz, wb_rv, wb_gi, wb_gr, wb_pi, aK_s, aN_s, aZ_s, k18_1, k18_8, k34_3, k34_4, k1_1, k2_2, k128_1, k128_2, k128_8, k567_5, k567_6, k567_7, wb_iald, wb_bald, wb_lald, wb_aald, wb_iast, wb_last, wb_bast, wb_len, wb_null, wb_sw, wb_cs1, wb_cs2, wb_cs3, wb_cs4, wb_cs5, wb_cs6, wb_cs7, wb_cv0, wb_cv1, wb_cv2, wb_cv3, wb_cv4, wb_cv5, wb_cv6, wb_m0, wb_m1, wb_m2, wb_m3, ws_0, ws_i, ws_l, ws_r, kI_s, kL_s, kR_s, lg_0, lg_s, ls_0, ls_s, ik_i, ik_l, ik_r, ik_n, kl_0, kl_s, dh_st1, dh_st2, Option.toList_some, Option.toList_none, List.cons_append, List.nil_append, Bool.false_eq_true, if_false, if_true, true_and, and_true, true_or, or_true, Nat.zero_le, Nat.reduceAdd, Nat.reduceLeDiff, ↓reduceIte, Int.reduceEq, Int.reduceLT, Int.reduceLE, Int.reduceNe, Int.reduceToNat, Int.reduceNeg, Nat.reduceEqDiff, ui_s, ui_2, ul_1, ul_s, wp_ite, sw_c, sw_n, oi_0, oi_1, oi_m1, lc_eq, lc_ne, b01_eq0, b01_ne0, b01_ok, b01_01, z_01, o_01, ne_eq, not_true, not_false_eq_true, imp_self, implies_true, false_implies]; try simp (discharger := omega) only [s0, s6, e1, List.length_cons, ↓if_pos, ↓if_neg, and_iff_right, dh_wr_id, ui_s, ui_p, ui_k, ui_2, ul_1, ul_s, ul_p, ul_k, true_and, and_true, not_true, not_false_eq_true, imp_self, implies_true, false_implies])
    have e4 : (((t.length + 1 : Nat) : Int) - 1).toNat = t.length := by omega
    rw [e4, e3.1]
    refine hQ _ (fr_ui (Or.inl ⟨rfl, Or.inl rfl⟩)) (by simp (discharger := omega) only [↓if_pos, ↓if_neg, and_iff_right, dh_wr_id, ui_s, ui_p, ui_k, ui_2, ul_1, ul_s, ul_p, ul_k, true_and, and_true, not_true, not_false_eq_true, imp_self, implies_true, false_implies]) ⟨ui_s.trans (by simp), by simp; omega, ?_⟩
    refine SR_congr (fun k hk => ?_) e3.2
    simp (discharger := omega) only [↓if_pos, ↓if_neg, and_iff_right, dh_wr_id, ui_s, ui_p, ui_k, ui_2, ul_1, ul_s, ul_p, ul_k, true_and, and_true, not_true, not_false_eq_true, imp_self, implies_true, false_implies]
theorem c_joined (s0 : dh_sh r = some (0, 5, 0, 0)) (hQ1 : ∀ v, jn x y z = some v → Q (some (.inl v)) h) (hQ2 : jn x y z = none → Q (some (.inl 0)) (dh_ui h r 9 1)) : dh_wpM (d + 1) 55 [.inr (.inr (some r)), .inl x, .inl y, .inl z] h Q := by
  rw [m55]
  (simp only [u55_0, bk55_0, u55_1, bk55_1, u55_2, bk55_2, u55_3, bk55_3, u55_4, bk55_4, u55_5, bk55_5, u55_6, bk55_6, u55_7, bk55_7, u55_8, bk55_8, u55_9, bk55_9, u55_10, bk55_10, u55_11, bk55_11, u55_12, bk55_12, u55_13, bk55_13, u55_14, bk55_14, u55_15, bk55_15, u55_16, bk55_16, s0, wb_ldi, wb_ldl, wb_ldr, wb_iinc, wb_sti, wb_str, wb_stl, wb_ci, wb_cl, wb_i0, wb_i1, wb_i2, wb_i5, wb_i6, wb_i7, wb_i8, wb_i9, wb_i3, wb_i4, wb_l0, wb_l1, wb_l2, wb_l5, wb_l6, wb_l3, wb_l4, wb_s0, wb_s1, wb_s2, wb_i2l, wb_l2i, wb_i2b, wb_lcmp, wb_dupi, wb_dupr, wb_popi, wb_popr, wb_ic0, wb_if0, wb_ic1, wb_if1, wb_ic2, wb_if2, wb_ic3, wb_if3, wb_ic4, wb_if4, wb_ic5, wb_if5, wb_nu0, wb_nu1, wb_nn0, wb_nn1, wb_go, wb_fall, wb_ri, wb_rl, wb_rr, wb_rz, wb_rv, wb_gi, wb_gr, wb_pi, aK_s, aN_s, aZ_s, k18_1, k18_8, k34_3, k34_4, k1_1, k2_2, k128_1, k128_2, k128_8, k567_5, k567_6, k567_7, wb_iald, wb_bald, wb_lald, wb_aald, wb_iast, wb_last, wb_bast, wb_len, wb_null, wb_sw, wb_cs1, wb_cs2, wb_cs3, wb_cs4, wb_cs5, wb_cs6, wb_cs7, wb_cv0, wb_cv1, wb_cv2, wb_cv3, wb_cv4, wb_cv5, wb_cv6, wb_m0, wb_m1, wb_m2, wb_m3, ws_0, ws_i, ws_l, ws_r, kI_s, kL_s, kR_s, lg_0, lg_s, ls_0, ls_s, ik_i, ik_l, ik_r, ik_n, kl_0, kl_s, dh_st1, dh_st2, Option.toList_some, Option.toList_none, List.cons_append, List.nil_append, Bool.false_eq_true, if_false, if_true, true_and, and_true, true_or, or_true, Nat.zero_le, Nat.reduceAdd, Nat.reduceLeDiff, ↓reduceIte, Int.reduceEq, Int.reduceLT, Int.reduceLE, Int.reduceNe, Int.reduceToNat, Int.reduceNeg, Nat.reduceEqDiff, ui_s, ui_2, ul_1, ul_s, wp_ite, sw_c, sw_n, oi_0, oi_1, oi_m1, lc_eq, lc_ne, b01_eq0, b01_ne0, b01_ok, b01_01, z_01, o_01, ne_eq, not_true, not_false_eq_true, imp_self, implies_true, false_implies]; try simp (discharger := omega) only [↓if_pos, ↓if_neg, and_iff_right, dh_wr_id, ui_s, ui_p, ui_k, ui_2, ul_1, ul_s, ul_p, ul_k, true_and, and_true, not_true, not_false_eq_true, imp_self, implies_true, false_implies])
  (repeat' split) <;> first | (apply hQ1; simp_all [jn]; done) | (apply hQ2; simp_all [jn]; done)
end RU
