/-! ===== law: the class's run and the reference's comesTo against the meaning of code ===== -/
theorem HC_drop {sg vl : Nat → Int} : ∀ {k : Nat} {L : List TK} {a : Nat}, k ≤ L.length → HC sg vl a L → HC sg vl (a + k) (L.drop k)
  | 0, L, a, _, h => h
  | k + 1, [], a, q, h => by simp at q
  | k + 1, t :: L, a, q, h => by
    rw [List.drop_succ_cons, show a + (k + 1) = a + 1 + k by omega]
    exact HC_drop (by simpa using q) h.2.2
theorem HR_drop {sd : Nat → Int} : ∀ {k : Nat} {L : List TK} {a : Nat}, k ≤ L.length → HR sd a L → HR sd (a + k) (L.drop k)
  | 0, L, a, _, h => h
  | k + 1, [], a, q, h => by simp at q
  | k + 1, t :: L, a, q, h => by
    rw [List.drop_succ_cons, show a + (k + 1) = a + 1 + k by omega]
    exact HR_drop (by simpa using q) h.2
theorem jn_jO {op a b : Int} (o0 : 2 ≤ op) (o1 : op ≤ 9) : jn (cS (op, 0)) a b = jO op a b := by
  have : op = 2 ∨ op = 3 ∨ op = 4 ∨ op = 5 ∨ op = 6 ∨ op = 7 ∨ op = 8 ∨ op = 9 := by omega
  rcases this with rfl | rfl | rfl | rfl | rfl | rfl | rfl | rfl <;> rfl
theorem cS_9 {op : Int} (o0 : 2 ≤ op) (o1 : op ≤ 9) : cS (op, 0) ≠ 59 ∧ cS (op, 0) ≠ 33 ∧ cS (op, 0) ≠ 38 ∧ cS (op, 0) ≠ 48 ∧ cS (op, 0) ≠ 110 ∧ cS (op, 0) ≠ 116 ∧ cS (op, 0) ≠ 120 ∧ cS (op, 0) ≠ 124 := by
  have : op = 2 ∨ op = 3 ∨ op = 4 ∨ op = 5 ∨ op = 6 ∨ op = 7 ∨ op = 8 ∨ op = 9 := by omega
  rcases this with rfl | rfl | rfl | rfl | rfl | rfl | rfl | rfl <;> decide
theorem run_ex {sg vl : Nat → Int} {sz hp la x : Int} : ∀ (n : Nat) (T : List TK) (a m : Nat) (st : List Int) (v : Int), ex hp la x n T st = some v → HC sg vl a (T ++ [(13, 0)]) → ((a + T.length + 1 : Nat) : Int) ≤ sz → sz < a + m → st.length ≤ 20 → runP sg vl sz hp la x m a st = v := by
  intro n
  induction n with
  | zero =>
    intro T a m st v e H s1 s2 s3
    cases T with
    | cons t T => simp [ex] at e
    | nil =>
      rw [ex] at e
      cases m with
      | zero => simp only [List.length_nil] at s1; omega
      | succ m =>
        have h0 : sg a = 59 := H.1
        simp only [List.length_nil] at s1
        rw [runP, if_neg (by omega), Int.toNat_natCast, if_pos h0]
        by_cases q : st.length = 1
        · rw [if_pos q] at e
          cases st with
          | nil => simp at q
          | cons w s => simpa using e
        · rw [if_neg q] at e; cases e
  | succ n ih =>
    intro T a m st v e H s1 s2 s3
    cases m with
    | zero => omega
    | succ m =>
      cases T with
      | nil =>
        rw [ex] at e
        have h0 : sg a = 59 := H.1
        simp only [List.length_nil] at s1
        rw [runP, if_neg (by omega), Int.toNat_natCast, if_pos h0]
        by_cases q : st.length = 1
        · rw [if_pos q] at e
          cases st with
          | nil => simp at q
          | cons w s => simpa using e
        · rw [if_neg q] at e; cases e
      | cons t T =>
        obtain ⟨t1, t2⟩ := t
        obtain ⟨h0, h1, h2⟩ := H
        have h2 : HC sg vl (a + 1) (T ++ [(13, 0)]) := h2
        rw [ex_s] at e
        simp only [List.length_cons] at s1 e
        rw [runP, if_neg (by omega), Int.toNat_natCast]
        by_cases q0 : t1 = 0
        · subst q0
          rw [if_pos rfl] at e
          by_cases g : st.length < 20 ∧ 0 ≤ t2 ∧ t2 ≤ 100000
          · rw [if_pos g] at e
            have h0' : sg a = 48 := h0
            have h1' : vl a = t2 := h1
            rw [if_neg (by omega), if_neg (by omega), if_neg (by omega), if_pos h0', h1', psh, if_pos (by omega)]
            exact ih T (a + 1) m _ v e h2 (by omega) (by omega) (by rw [List.length_cons]; omega)
          · rw [if_neg g] at e; cases e
        rw [if_neg q0] at e
        by_cases q1 : t1 = 1
        · subst q1
          rw [if_pos rfl] at e
          by_cases g : st.length < 20 ∧ (t2 = 0 ∨ t2 = 1 ∨ t2 = 2)
          · rw [if_pos g] at e
            have R := ih T (a + 1) m _ v e h2 (by omega) (by omega) (by rw [List.length_cons]; omega)
            rcases g.2 with rfl | rfl | rfl
            · have h0' : sg a = 110 := h0
              rw [if_neg (by omega), if_neg (by omega), if_neg (by omega), if_neg (by omega), if_pos h0', psh, if_pos (by omega)]
              exact R
            · have h0' : sg a = 116 := h0
              rw [if_neg (by omega), if_neg (by omega), if_neg (by omega), if_neg (by omega), if_neg (by omega), if_pos h0', psh, if_pos (by omega)]
              exact R
            · have h0' : sg a = 120 := h0
              rw [if_neg (by omega), if_neg (by omega), if_neg (by omega), if_neg (by omega), if_neg (by omega), if_neg (by omega), if_pos h0', psh, if_pos (by omega)]
              exact R
          · rw [if_neg g] at e; cases e
        rw [if_neg q1] at e
        by_cases q2 : t1 = 10
        · subst q2
          rw [if_pos rfl] at e
          by_cases g : 1 ≤ st.length ∧ t2 = 0
          · rw [if_pos g] at e
            have h0' : sg a = 33 := h0
            rw [if_neg (by omega), if_pos h0', psh, if_pos (by rw [List.length_tail]; omega)]
            exact ih T (a + 1) m _ v e h2 (by omega) (by omega) (by rw [List.length_cons, List.length_tail]; omega)
          · rw [if_neg g] at e; cases e
        rw [if_neg q2] at e
        by_cases q3 : t1 = 11 ∨ t1 = 12
        · rw [if_pos q3] at e
          by_cases g' : 1 ≤ st.length ∧ 1 ≤ t2 ∧ t2 ≤ (T.length : Int) + 1
          · rw [if_pos g'] at e
            have g := g'.1
            have g3 := g'.2
            have h1' : vl a = a + t2 := by rw [h1]; unfold cV; rw [if_neg q0, if_pos q3]
            have hst : psh (st.headD 0) st.tail = st := by
              cases st with
              | nil => simp at g
              | cons w s => rw [psh, if_pos (by simp only [List.tail_cons]; simp only [List.length_cons] at s3; omega)]; rfl
            by_cases g2 : st.headD 0 = t1 - 11
            · rw [if_pos g2] at e
              · have tl : (t2 - 1).toNat ≤ T.length := by omega
                have R := ih (T.drop (t2 - 1).toNat) (a + 1 + (t2 - 1).toNat) m _ v e (by
                  have := HC_drop (k := (t2 - 1).toNat) (by rw [List.length_append]; omega) h2
                  rw [List.drop_append_of_le_length tl] at this
                  exact this) (by rw [List.length_drop]; omega) (by omega) s3
                have mx : max (a : Int) (vl a - 1) + 1 = ((a + 1 + (t2 - 1).toNat : Nat) : Int) := by rw [h1']; omega
                rcases q3 with rfl | rfl
                · have h0' : sg a = 38 := h0
                  rw [if_neg (by omega), if_neg (by omega), if_pos h0', if_pos (show st.headD 0 = 0 by omega), mx, hst]
                  exact R
                · have h0' : sg a = 124 := h0
                  rw [if_neg (by omega), if_neg (by omega), if_neg (by omega), if_neg (by omega), if_neg (by omega), if_neg (by omega), if_neg (by omega), if_pos h0', if_pos (show st.headD 0 = 1 by omega), mx, hst]
                  exact R
            · rw [if_neg g2] at e
              have R := ih T (a + 1) m _ v e h2 (by omega) (by omega) (by rw [List.length_tail]; omega)
              rcases q3 with rfl | rfl
              · have h0' : sg a = 38 := h0
                rw [if_neg (by omega), if_neg (by omega), if_pos h0', if_neg (show ¬ st.headD 0 = 0 by omega)]
                exact R
              · have h0' : sg a = 124 := h0
                rw [if_neg (by omega), if_neg (by omega), if_neg (by omega), if_neg (by omega), if_neg (by omega), if_neg (by omega), if_neg (by omega), if_pos h0', if_neg (show ¬ st.headD 0 = 1 by omega)]
                exact R
          · rw [if_neg g'] at e; cases e
        rw [if_neg q3] at e
        by_cases q4 : 2 ≤ t1 ∧ t1 ≤ 9
        · rw [if_pos q4] at e
          by_cases g : 2 ≤ st.length ∧ t2 = 0
          · rw [if_pos g] at e
            obtain ⟨g1, rfl⟩ := g
            have c9 := cS_9 q4.1 q4.2
            rw [← h0] at c9
            rw [if_neg c9.1, if_neg c9.2.1, if_neg c9.2.2.1, if_neg c9.2.2.2.1, if_neg c9.2.2.2.2.1, if_neg c9.2.2.2.2.2.1, if_neg c9.2.2.2.2.2.2.1, if_neg c9.2.2.2.2.2.2.2, h0, jn_jO q4.1 q4.2]
            cases hj : jO t1 (st.tail.headD 0) (st.headD 0) with
            | none => rw [hj] at e; simp only [Option.elim, Option.some.injEq] at e; exact e
            | some w =>
              rw [hj] at e
              simp only [Option.elim] at e
              show runP sg vl sz hp la x m (a + 1) (psh w st.tail.tail) = v
              rw [psh, if_pos (by rw [List.length_tail, List.length_tail]; omega)]
              exact ih T (a + 1) m _ v e h2 (by omega) (by omega) (by rw [List.length_cons, List.length_tail, List.length_tail]; omega)
          · rw [if_neg g] at e; cases e
        · rw [if_neg q4] at e; cases e
section NA
variable {d : Nat} {Q : Option dh_V → dh_AH → Prop} {h h' : dh_AH} {hp la x y v : Int}
theorem y_reckon {op : Int} (o0 : 2 ≤ op) (o1 : op ≤ 9) (e : jO op x y = some v) : dh_wpM (d + 1) 182 [.inl op, .inl x, .inl y] h Q = Q (some (.inl v)) h := by
  rw [m182]
  have : op = 2 ∨ op = 3 ∨ op = 4 ∨ op = 5 ∨ op = 6 ∨ op = 7 ∨ op = 8 ∨ op = 9 := by omega
  unfold jO at e
  rcases this with rfl | rfl | rfl | rfl | rfl | rfl | rfl | rfl
  · simp only [Int.reduceEq, if_false, if_true, Option.some.injEq] at e
    subst e
    ((try simp only [u182_0, bk182_0, u182_1, bk182_1, wb_ldi, wb_ldl, wb_ldr, wb_iinc, wb_sti, wb_str, wb_stl, wb_ci, wb_cl, wb_i0, wb_i1, wb_i2, wb_i5, wb_i6, wb_i7, wb_i8, wb_i9, wb_i3, wb_i4, wb_l0, wb_l1, wb_l2, wb_l5, wb_l6, wb_l3, wb_l4, wb_s0, wb_s1, wb_s2, wb_i2l, wb_l2i, wb_i2b, wb_lcmp, wb_dupi, wb_dupr, wb_popi, wb_popr, wb_ic0, wb_if0, wb_ic1, wb_if1, wb_ic2, wb_if2, wb_ic3, wb_if3, wb_ic4, wb_if4, wb_ic5, wb_if5, wb_nu0, wb_nu1, wb_nn0, wb_nn1, wb_go, wb_fall, wb_ri, wb_rl, wb_rr, wb_rz, wb_rv, wb_gi, wb_gr, wb_pi, aK_s, aN_s, aZ_s, k18_1, k18_8, k34_3, k34_4, k1_1, k2_2, k128_1, k128_2, k128_8, k567_5, k567_6, k567_7, wb_iald, wb_bald, wb_lald, wb_aald, wb_iast, wb_last, wb_bast, wb_len, wb_null, wb_sw, wb_cs1, wb_cs2, wb_cs3, wb_cs4, wb_cs5, wb_cs6, wb_cs7, wb_cv0, wb_cv1, wb_cv2, wb_cv3, wb_cv4, wb_cv5, wb_cv6, wb_m0, wb_m1, wb_m2, wb_m3, ws_0, ws_i, ws_l, ws_r, kI_s, kL_s, kR_s, lg_0, lg_s, ls_0, ls_s, ik_i, ik_l, ik_r, ik_n, kl_0, kl_s, dh_st1, dh_st2, Option.toList_some, Option.toList_none, List.cons_append, List.nil_append, Bool.false_eq_true, if_false, if_true, true_and, and_true, true_or, or_true, Nat.zero_le, Nat.reduceAdd, Nat.reduceLeDiff, ↓reduceIte, Int.reduceEq, Int.reduceLT, Int.reduceLE, Int.reduceNe, Int.reduceToNat, Int.reduceNeg, Nat.reduceEqDiff, ui_s, ui_2, ul_1, ul_s, wp_ite, sw_c, sw_n, oi_0, oi_1, oi_m1, lc_eq, lc_ne, b01_eq0, b01_ne0, b01_ok, b01_01, z_01, o_01, ne_eq, not_true, not_false_eq_true, imp_self, implies_true, false_implies, and_false, false_and, false_or, or_false, Int.add_zero]); try simp (discharger := omega) only [↓if_pos, ↓if_neg, and_iff_right, dh_wr_id, ui_s, ui_p, ui_k, ui_2, ul_1, ul_s, ul_p, ul_k, true_and, and_true, and_false, false_and, if_false, if_true, not_true, not_false_eq_true, imp_self, implies_true, false_implies])
  · simp only [Int.reduceEq, if_false, if_true, Option.some.injEq] at e
    subst e
    ((try simp only [u182_0, bk182_0, u182_2, bk182_2, wb_ldi, wb_ldl, wb_ldr, wb_iinc, wb_sti, wb_str, wb_stl, wb_ci, wb_cl, wb_i0, wb_i1, wb_i2, wb_i5, wb_i6, wb_i7, wb_i8, wb_i9, wb_i3, wb_i4, wb_l0, wb_l1, wb_l2, wb_l5, wb_l6, wb_l3, wb_l4, wb_s0, wb_s1, wb_s2, wb_i2l, wb_l2i, wb_i2b, wb_lcmp, wb_dupi, wb_dupr, wb_popi, wb_popr, wb_ic0, wb_if0, wb_ic1, wb_if1, wb_ic2, wb_if2, wb_ic3, wb_if3, wb_ic4, wb_if4, wb_ic5, wb_if5, wb_nu0, wb_nu1, wb_nn0, wb_nn1, wb_go, wb_fall, wb_ri, wb_rl, wb_rr, wb_rz, wb_rv, wb_gi, wb_gr, wb_pi, aK_s, aN_s, aZ_s, k18_1, k18_8, k34_3, k34_4, k1_1, k2_2, k128_1, k128_2, k128_8, k567_5, k567_6, k567_7, wb_iald, wb_bald, wb_lald, wb_aald, wb_iast, wb_last, wb_bast, wb_len, wb_null, wb_sw, wb_cs1, wb_cs2, wb_cs3, wb_cs4, wb_cs5, wb_cs6, wb_cs7, wb_cv0, wb_cv1, wb_cv2, wb_cv3, wb_cv4, wb_cv5, wb_cv6, wb_m0, wb_m1, wb_m2, wb_m3, ws_0, ws_i, ws_l, ws_r, kI_s, kL_s, kR_s, lg_0, lg_s, ls_0, ls_s, ik_i, ik_l, ik_r, ik_n, kl_0, kl_s, dh_st1, dh_st2, Option.toList_some, Option.toList_none, List.cons_append, List.nil_append, Bool.false_eq_true, if_false, if_true, true_and, and_true, true_or, or_true, Nat.zero_le, Nat.reduceAdd, Nat.reduceLeDiff, ↓reduceIte, Int.reduceEq, Int.reduceLT, Int.reduceLE, Int.reduceNe, Int.reduceToNat, Int.reduceNeg, Nat.reduceEqDiff, ui_s, ui_2, ul_1, ul_s, wp_ite, sw_c, sw_n, oi_0, oi_1, oi_m1, lc_eq, lc_ne, b01_eq0, b01_ne0, b01_ok, b01_01, z_01, o_01, ne_eq, not_true, not_false_eq_true, imp_self, implies_true, false_implies, and_false, false_and, false_or, or_false, Int.add_zero]); try simp (discharger := omega) only [↓if_pos, ↓if_neg, and_iff_right, dh_wr_id, ui_s, ui_p, ui_k, ui_2, ul_1, ul_s, ul_p, ul_k, true_and, and_true, and_false, false_and, if_false, if_true, not_true, not_false_eq_true, imp_self, implies_true, false_implies])
  · simp only [Int.reduceEq, if_false, if_true, Option.some.injEq] at e
    subst e
    ((try simp only [u182_0, bk182_0, u182_3, bk182_3, wb_ldi, wb_ldl, wb_ldr, wb_iinc, wb_sti, wb_str, wb_stl, wb_ci, wb_cl, wb_i0, wb_i1, wb_i2, wb_i5, wb_i6, wb_i7, wb_i8, wb_i9, wb_i3, wb_i4, wb_l0, wb_l1, wb_l2, wb_l5, wb_l6, wb_l3, wb_l4, wb_s0, wb_s1, wb_s2, wb_i2l, wb_l2i, wb_i2b, wb_lcmp, wb_dupi, wb_dupr, wb_popi, wb_popr, wb_ic0, wb_if0, wb_ic1, wb_if1, wb_ic2, wb_if2, wb_ic3, wb_if3, wb_ic4, wb_if4, wb_ic5, wb_if5, wb_nu0, wb_nu1, wb_nn0, wb_nn1, wb_go, wb_fall, wb_ri, wb_rl, wb_rr, wb_rz, wb_rv, wb_gi, wb_gr, wb_pi, aK_s, aN_s, aZ_s, k18_1, k18_8, k34_3, k34_4, k1_1, k2_2, k128_1, k128_2, k128_8, k567_5, k567_6, k567_7, wb_iald, wb_bald, wb_lald, wb_aald, wb_iast, wb_last, wb_bast, wb_len, wb_null, wb_sw, wb_cs1, wb_cs2, wb_cs3, wb_cs4, wb_cs5, wb_cs6, wb_cs7, wb_cv0, wb_cv1, wb_cv2, wb_cv3, wb_cv4, wb_cv5, wb_cv6, wb_m0, wb_m1, wb_m2, wb_m3, ws_0, ws_i, ws_l, ws_r, kI_s, kL_s, kR_s, lg_0, lg_s, ls_0, ls_s, ik_i, ik_l, ik_r, ik_n, kl_0, kl_s, dh_st1, dh_st2, Option.toList_some, Option.toList_none, List.cons_append, List.nil_append, Bool.false_eq_true, if_false, if_true, true_and, and_true, true_or, or_true, Nat.zero_le, Nat.reduceAdd, Nat.reduceLeDiff, ↓reduceIte, Int.reduceEq, Int.reduceLT, Int.reduceLE, Int.reduceNe, Int.reduceToNat, Int.reduceNeg, Nat.reduceEqDiff, ui_s, ui_2, ul_1, ul_s, wp_ite, sw_c, sw_n, oi_0, oi_1, oi_m1, lc_eq, lc_ne, b01_eq0, b01_ne0, b01_ok, b01_01, z_01, o_01, ne_eq, not_true, not_false_eq_true, imp_self, implies_true, false_implies, and_false, false_and, false_or, or_false, Int.add_zero]); try simp (discharger := omega) only [↓if_pos, ↓if_neg, and_iff_right, dh_wr_id, ui_s, ui_p, ui_k, ui_2, ul_1, ul_s, ul_p, ul_k, true_and, and_true, and_false, false_and, if_false, if_true, not_true, not_false_eq_true, imp_self, implies_true, false_implies])
  · simp only [Int.reduceEq, if_false, if_true] at e
    by_cases q : y = 0
    · rw [if_pos q] at e; cases e
    · rw [if_neg q, Option.some.injEq] at e
      subst e
      ((try simp only [u182_0, bk182_0, u182_4, bk182_4, q, wb_ldi, wb_ldl, wb_ldr, wb_iinc, wb_sti, wb_str, wb_stl, wb_ci, wb_cl, wb_i0, wb_i1, wb_i2, wb_i5, wb_i6, wb_i7, wb_i8, wb_i9, wb_i3, wb_i4, wb_l0, wb_l1, wb_l2, wb_l5, wb_l6, wb_l3, wb_l4, wb_s0, wb_s1, wb_s2, wb_i2l, wb_l2i, wb_i2b, wb_lcmp, wb_dupi, wb_dupr, wb_popi, wb_popr, wb_ic0, wb_if0, wb_ic1, wb_if1, wb_ic2, wb_if2, wb_ic3, wb_if3, wb_ic4, wb_if4, wb_ic5, wb_if5, wb_nu0, wb_nu1, wb_nn0, wb_nn1, wb_go, wb_fall, wb_ri, wb_rl, wb_rr, wb_rz, wb_rv, wb_gi, wb_gr, wb_pi, aK_s, aN_s, aZ_s, k18_1, k18_8, k34_3, k34_4, k1_1, k2_2, k128_1, k128_2, k128_8, k567_5, k567_6, k567_7, wb_iald, wb_bald, wb_lald, wb_aald, wb_iast, wb_last, wb_bast, wb_len, wb_null, wb_sw, wb_cs1, wb_cs2, wb_cs3, wb_cs4, wb_cs5, wb_cs6, wb_cs7, wb_cv0, wb_cv1, wb_cv2, wb_cv3, wb_cv4, wb_cv5, wb_cv6, wb_m0, wb_m1, wb_m2, wb_m3, ws_0, ws_i, ws_l, ws_r, kI_s, kL_s, kR_s, lg_0, lg_s, ls_0, ls_s, ik_i, ik_l, ik_r, ik_n, kl_0, kl_s, dh_st1, dh_st2, Option.toList_some, Option.toList_none, List.cons_append, List.nil_append, Bool.false_eq_true, if_false, if_true, true_and, and_true, true_or, or_true, Nat.zero_le, Nat.reduceAdd, Nat.reduceLeDiff, ↓reduceIte, Int.reduceEq, Int.reduceLT, Int.reduceLE, Int.reduceNe, Int.reduceToNat, Int.reduceNeg, Nat.reduceEqDiff, ui_s, ui_2, ul_1, ul_s, wp_ite, sw_c, sw_n, oi_0, oi_1, oi_m1, lc_eq, lc_ne, b01_eq0, b01_ne0, b01_ok, b01_01, z_01, o_01, ne_eq, not_true, not_false_eq_true, imp_self, implies_true, false_implies, and_false, false_and, false_or, or_false, Int.add_zero]); try simp (discharger := omega) only [q, ↓if_pos, ↓if_neg, and_iff_right, dh_wr_id, ui_s, ui_p, ui_k, ui_2, ul_1, ul_s, ul_p, ul_k, true_and, and_true, and_false, false_and, if_false, if_true, not_true, not_false_eq_true, imp_self, implies_true, false_implies])
  · simp only [Int.reduceEq, if_false, if_true] at e
    by_cases q : y = 0
    · rw [if_pos q] at e; cases e
    · rw [if_neg q, Option.some.injEq] at e
      subst e
      ((try simp only [u182_0, bk182_0, u182_5, bk182_5, q, wb_ldi, wb_ldl, wb_ldr, wb_iinc, wb_sti, wb_str, wb_stl, wb_ci, wb_cl, wb_i0, wb_i1, wb_i2, wb_i5, wb_i6, wb_i7, wb_i8, wb_i9, wb_i3, wb_i4, wb_l0, wb_l1, wb_l2, wb_l5, wb_l6, wb_l3, wb_l4, wb_s0, wb_s1, wb_s2, wb_i2l, wb_l2i, wb_i2b, wb_lcmp, wb_dupi, wb_dupr, wb_popi, wb_popr, wb_ic0, wb_if0, wb_ic1, wb_if1, wb_ic2, wb_if2, wb_ic3, wb_if3, wb_ic4, wb_if4, wb_ic5, wb_if5, wb_nu0, wb_nu1, wb_nn0, wb_nn1, wb_go, wb_fall, wb_ri, wb_rl, wb_rr, wb_rz, wb_rv, wb_gi, wb_gr, wb_pi, aK_s, aN_s, aZ_s, k18_1, k18_8, k34_3, k34_4, k1_1, k2_2, k128_1, k128_2, k128_8, k567_5, k567_6, k567_7, wb_iald, wb_bald, wb_lald, wb_aald, wb_iast, wb_last, wb_bast, wb_len, wb_null, wb_sw, wb_cs1, wb_cs2, wb_cs3, wb_cs4, wb_cs5, wb_cs6, wb_cs7, wb_cv0, wb_cv1, wb_cv2, wb_cv3, wb_cv4, wb_cv5, wb_cv6, wb_m0, wb_m1, wb_m2, wb_m3, ws_0, ws_i, ws_l, ws_r, kI_s, kL_s, kR_s, lg_0, lg_s, ls_0, ls_s, ik_i, ik_l, ik_r, ik_n, kl_0, kl_s, dh_st1, dh_st2, Option.toList_some, Option.toList_none, List.cons_append, List.nil_append, Bool.false_eq_true, if_false, if_true, true_and, and_true, true_or, or_true, Nat.zero_le, Nat.reduceAdd, Nat.reduceLeDiff, ↓reduceIte, Int.reduceEq, Int.reduceLT, Int.reduceLE, Int.reduceNe, Int.reduceToNat, Int.reduceNeg, Nat.reduceEqDiff, ui_s, ui_2, ul_1, ul_s, wp_ite, sw_c, sw_n, oi_0, oi_1, oi_m1, lc_eq, lc_ne, b01_eq0, b01_ne0, b01_ok, b01_01, z_01, o_01, ne_eq, not_true, not_false_eq_true, imp_self, implies_true, false_implies, and_false, false_and, false_or, or_false, Int.add_zero]); try simp (discharger := omega) only [q, ↓if_pos, ↓if_neg, and_iff_right, dh_wr_id, ui_s, ui_p, ui_k, ui_2, ul_1, ul_s, ul_p, ul_k, true_and, and_true, and_false, false_and, if_false, if_true, not_true, not_false_eq_true, imp_self, implies_true, false_implies])
  · simp only [Int.reduceEq, if_false, if_true, Option.some.injEq] at e
    subst e
    by_cases q : x < y
    · ((try simp only [u182_0, bk182_0, u182_6, bk182_6, u182_7, bk182_7, u182_8, bk182_8, q, wb_ldi, wb_ldl, wb_ldr, wb_iinc, wb_sti, wb_str, wb_stl, wb_ci, wb_cl, wb_i0, wb_i1, wb_i2, wb_i5, wb_i6, wb_i7, wb_i8, wb_i9, wb_i3, wb_i4, wb_l0, wb_l1, wb_l2, wb_l5, wb_l6, wb_l3, wb_l4, wb_s0, wb_s1, wb_s2, wb_i2l, wb_l2i, wb_i2b, wb_lcmp, wb_dupi, wb_dupr, wb_popi, wb_popr, wb_ic0, wb_if0, wb_ic1, wb_if1, wb_ic2, wb_if2, wb_ic3, wb_if3, wb_ic4, wb_if4, wb_ic5, wb_if5, wb_nu0, wb_nu1, wb_nn0, wb_nn1, wb_go, wb_fall, wb_ri, wb_rl, wb_rr, wb_rz, wb_rv, wb_gi, wb_gr, wb_pi, aK_s, aN_s, aZ_s, k18_1, k18_8, k34_3, k34_4, k1_1, k2_2, k128_1, k128_2, k128_8, k567_5, k567_6, k567_7, wb_iald, wb_bald, wb_lald, wb_aald, wb_iast, wb_last, wb_bast, wb_len, wb_null, wb_sw, wb_cs1, wb_cs2, wb_cs3, wb_cs4, wb_cs5, wb_cs6, wb_cs7, wb_cv0, wb_cv1, wb_cv2, wb_cv3, wb_cv4, wb_cv5, wb_cv6, wb_m0, wb_m1, wb_m2, wb_m3, ws_0, ws_i, ws_l, ws_r, kI_s, kL_s, kR_s, lg_0, lg_s, ls_0, ls_s, ik_i, ik_l, ik_r, ik_n, kl_0, kl_s, dh_st1, dh_st2, Option.toList_some, Option.toList_none, List.cons_append, List.nil_append, Bool.false_eq_true, if_false, if_true, true_and, and_true, true_or, or_true, Nat.zero_le, Nat.reduceAdd, Nat.reduceLeDiff, ↓reduceIte, Int.reduceEq, Int.reduceLT, Int.reduceLE, Int.reduceNe, Int.reduceToNat, Int.reduceNeg, Nat.reduceEqDiff, ui_s, ui_2, ul_1, ul_s, wp_ite, sw_c, sw_n, oi_0, oi_1, oi_m1, lc_eq, lc_ne, b01_eq0, b01_ne0, b01_ok, b01_01, z_01, o_01, ne_eq, not_true, not_false_eq_true, imp_self, implies_true, false_implies, and_false, false_and, false_or, or_false, Int.add_zero]); try simp (discharger := omega) only [q, ↓if_pos, ↓if_neg, and_iff_right, dh_wr_id, ui_s, ui_p, ui_k, ui_2, ul_1, ul_s, ul_p, ul_k, true_and, and_true, and_false, false_and, if_false, if_true, not_true, not_false_eq_true, imp_self, implies_true, false_implies])
    · ((try simp only [u182_0, bk182_0, u182_6, bk182_6, u182_7, bk182_7, u182_8, bk182_8, q, wb_ldi, wb_ldl, wb_ldr, wb_iinc, wb_sti, wb_str, wb_stl, wb_ci, wb_cl, wb_i0, wb_i1, wb_i2, wb_i5, wb_i6, wb_i7, wb_i8, wb_i9, wb_i3, wb_i4, wb_l0, wb_l1, wb_l2, wb_l5, wb_l6, wb_l3, wb_l4, wb_s0, wb_s1, wb_s2, wb_i2l, wb_l2i, wb_i2b, wb_lcmp, wb_dupi, wb_dupr, wb_popi, wb_popr, wb_ic0, wb_if0, wb_ic1, wb_if1, wb_ic2, wb_if2, wb_ic3, wb_if3, wb_ic4, wb_if4, wb_ic5, wb_if5, wb_nu0, wb_nu1, wb_nn0, wb_nn1, wb_go, wb_fall, wb_ri, wb_rl, wb_rr, wb_rz, wb_rv, wb_gi, wb_gr, wb_pi, aK_s, aN_s, aZ_s, k18_1, k18_8, k34_3, k34_4, k1_1, k2_2, k128_1, k128_2, k128_8, k567_5, k567_6, k567_7, wb_iald, wb_bald, wb_lald, wb_aald, wb_iast, wb_last, wb_bast, wb_len, wb_null, wb_sw, wb_cs1, wb_cs2, wb_cs3, wb_cs4, wb_cs5, wb_cs6, wb_cs7, wb_cv0, wb_cv1, wb_cv2, wb_cv3, wb_cv4, wb_cv5, wb_cv6, wb_m0, wb_m1, wb_m2, wb_m3, ws_0, ws_i, ws_l, ws_r, kI_s, kL_s, kR_s, lg_0, lg_s, ls_0, ls_s, ik_i, ik_l, ik_r, ik_n, kl_0, kl_s, dh_st1, dh_st2, Option.toList_some, Option.toList_none, List.cons_append, List.nil_append, Bool.false_eq_true, if_false, if_true, true_and, and_true, true_or, or_true, Nat.zero_le, Nat.reduceAdd, Nat.reduceLeDiff, ↓reduceIte, Int.reduceEq, Int.reduceLT, Int.reduceLE, Int.reduceNe, Int.reduceToNat, Int.reduceNeg, Nat.reduceEqDiff, ui_s, ui_2, ul_1, ul_s, wp_ite, sw_c, sw_n, oi_0, oi_1, oi_m1, lc_eq, lc_ne, b01_eq0, b01_ne0, b01_ok, b01_01, z_01, o_01, ne_eq, not_true, not_false_eq_true, imp_self, implies_true, false_implies, and_false, false_and, false_or, or_false, Int.add_zero]); try simp (discharger := omega) only [q, ↓if_pos, ↓if_neg, and_iff_right, dh_wr_id, ui_s, ui_p, ui_k, ui_2, ul_1, ul_s, ul_p, ul_k, true_and, and_true, and_false, false_and, if_false, if_true, not_true, not_false_eq_true, imp_self, implies_true, false_implies])
  · simp only [Int.reduceEq, if_false, if_true, Option.some.injEq] at e
    subst e
    by_cases q : y < x
    · ((try simp only [u182_0, bk182_0, u182_9, bk182_9, u182_10, bk182_10, u182_11, bk182_11, q, wb_ldi, wb_ldl, wb_ldr, wb_iinc, wb_sti, wb_str, wb_stl, wb_ci, wb_cl, wb_i0, wb_i1, wb_i2, wb_i5, wb_i6, wb_i7, wb_i8, wb_i9, wb_i3, wb_i4, wb_l0, wb_l1, wb_l2, wb_l5, wb_l6, wb_l3, wb_l4, wb_s0, wb_s1, wb_s2, wb_i2l, wb_l2i, wb_i2b, wb_lcmp, wb_dupi, wb_dupr, wb_popi, wb_popr, wb_ic0, wb_if0, wb_ic1, wb_if1, wb_ic2, wb_if2, wb_ic3, wb_if3, wb_ic4, wb_if4, wb_ic5, wb_if5, wb_nu0, wb_nu1, wb_nn0, wb_nn1, wb_go, wb_fall, wb_ri, wb_rl, wb_rr, wb_rz, wb_rv, wb_gi, wb_gr, wb_pi, aK_s, aN_s, aZ_s, k18_1, k18_8, k34_3, k34_4, k1_1, k2_2, k128_1, k128_2, k128_8, k567_5, k567_6, k567_7, wb_iald, wb_bald, wb_lald, wb_aald, wb_iast, wb_last, wb_bast, wb_len, wb_null, wb_sw, wb_cs1, wb_cs2, wb_cs3, wb_cs4, wb_cs5, wb_cs6, wb_cs7, wb_cv0, wb_cv1, wb_cv2, wb_cv3, wb_cv4, wb_cv5, wb_cv6, wb_m0, wb_m1, wb_m2, wb_m3, ws_0, ws_i, ws_l, ws_r, kI_s, kL_s, kR_s, lg_0, lg_s, ls_0, ls_s, ik_i, ik_l, ik_r, ik_n, kl_0, kl_s, dh_st1, dh_st2, Option.toList_some, Option.toList_none, List.cons_append, List.nil_append, Bool.false_eq_true, if_false, if_true, true_and, and_true, true_or, or_true, Nat.zero_le, Nat.reduceAdd, Nat.reduceLeDiff, ↓reduceIte, Int.reduceEq, Int.reduceLT, Int.reduceLE, Int.reduceNe, Int.reduceToNat, Int.reduceNeg, Nat.reduceEqDiff, ui_s, ui_2, ul_1, ul_s, wp_ite, sw_c, sw_n, oi_0, oi_1, oi_m1, lc_eq, lc_ne, b01_eq0, b01_ne0, b01_ok, b01_01, z_01, o_01, ne_eq, not_true, not_false_eq_true, imp_self, implies_true, false_implies, and_false, false_and, false_or, or_false, Int.add_zero]); try simp (discharger := omega) only [q, ↓if_pos, ↓if_neg, and_iff_right, dh_wr_id, ui_s, ui_p, ui_k, ui_2, ul_1, ul_s, ul_p, ul_k, true_and, and_true, and_false, false_and, if_false, if_true, not_true, not_false_eq_true, imp_self, implies_true, false_implies])
    · ((try simp only [u182_0, bk182_0, u182_9, bk182_9, u182_10, bk182_10, u182_11, bk182_11, q, wb_ldi, wb_ldl, wb_ldr, wb_iinc, wb_sti, wb_str, wb_stl, wb_ci, wb_cl, wb_i0, wb_i1, wb_i2, wb_i5, wb_i6, wb_i7, wb_i8, wb_i9, wb_i3, wb_i4, wb_l0, wb_l1, wb_l2, wb_l5, wb_l6, wb_l3, wb_l4, wb_s0, wb_s1, wb_s2, wb_i2l, wb_l2i, wb_i2b, wb_lcmp, wb_dupi, wb_dupr, wb_popi, wb_popr, wb_ic0, wb_if0, wb_ic1, wb_if1, wb_ic2, wb_if2, wb_ic3, wb_if3, wb_ic4, wb_if4, wb_ic5, wb_if5, wb_nu0, wb_nu1, wb_nn0, wb_nn1, wb_go, wb_fall, wb_ri, wb_rl, wb_rr, wb_rz, wb_rv, wb_gi, wb_gr, wb_pi, aK_s, aN_s, aZ_s, k18_1, k18_8, k34_3, k34_4, k1_1, k2_2, k128_1, k128_2, k128_8, k567_5, k567_6, k567_7, wb_iald, wb_bald, wb_lald, wb_aald, wb_iast, wb_last, wb_bast, wb_len, wb_null, wb_sw, wb_cs1, wb_cs2, wb_cs3, wb_cs4, wb_cs5, wb_cs6, wb_cs7, wb_cv0, wb_cv1, wb_cv2, wb_cv3, wb_cv4, wb_cv5, wb_cv6, wb_m0, wb_m1, wb_m2, wb_m3, ws_0, ws_i, ws_l, ws_r, kI_s, kL_s, kR_s, lg_0, lg_s, ls_0, ls_s, ik_i, ik_l, ik_r, ik_n, kl_0, kl_s, dh_st1, dh_st2, Option.toList_some, Option.toList_none, List.cons_append, List.nil_append, Bool.false_eq_true, if_false, if_true, true_and, and_true, true_or, or_true, Nat.zero_le, Nat.reduceAdd, Nat.reduceLeDiff, ↓reduceIte, Int.reduceEq, Int.reduceLT, Int.reduceLE, Int.reduceNe, Int.reduceToNat, Int.reduceNeg, Nat.reduceEqDiff, ui_s, ui_2, ul_1, ul_s, wp_ite, sw_c, sw_n, oi_0, oi_1, oi_m1, lc_eq, lc_ne, b01_eq0, b01_ne0, b01_ok, b01_01, z_01, o_01, ne_eq, not_true, not_false_eq_true, imp_self, implies_true, false_implies, and_false, false_and, false_or, or_false, Int.add_zero]); try simp (discharger := omega) only [q, ↓if_pos, ↓if_neg, and_iff_right, dh_wr_id, ui_s, ui_p, ui_k, ui_2, ul_1, ul_s, ul_p, ul_k, true_and, and_true, and_false, false_and, if_false, if_true, not_true, not_false_eq_true, imp_self, implies_true, false_implies])
  · simp only [Int.reduceEq, if_false, if_true, Option.some.injEq] at e
    subst e
    by_cases q : x = y
    · ((try simp only [u182_0, bk182_0, u182_12, bk182_12, u182_13, bk182_13, u182_14, bk182_14, (eq_true q), wb_ldi, wb_ldl, wb_ldr, wb_iinc, wb_sti, wb_str, wb_stl, wb_ci, wb_cl, wb_i0, wb_i1, wb_i2, wb_i5, wb_i6, wb_i7, wb_i8, wb_i9, wb_i3, wb_i4, wb_l0, wb_l1, wb_l2, wb_l5, wb_l6, wb_l3, wb_l4, wb_s0, wb_s1, wb_s2, wb_i2l, wb_l2i, wb_i2b, wb_lcmp, wb_dupi, wb_dupr, wb_popi, wb_popr, wb_ic0, wb_if0, wb_ic1, wb_if1, wb_ic2, wb_if2, wb_ic3, wb_if3, wb_ic4, wb_if4, wb_ic5, wb_if5, wb_nu0, wb_nu1, wb_nn0, wb_nn1, wb_go, wb_fall, wb_ri, wb_rl, wb_rr, wb_rz, wb_rv, wb_gi, wb_gr, wb_pi, aK_s, aN_s, aZ_s, k18_1, k18_8, k34_3, k34_4, k1_1, k2_2, k128_1, k128_2, k128_8, k567_5, k567_6, k567_7, wb_iald, wb_bald, wb_lald, wb_aald, wb_iast, wb_last, wb_bast, wb_len, wb_null, wb_sw, wb_cs1, wb_cs2, wb_cs3, wb_cs4, wb_cs5, wb_cs6, wb_cs7, wb_cv0, wb_cv1, wb_cv2, wb_cv3, wb_cv4, wb_cv5, wb_cv6, wb_m0, wb_m1, wb_m2, wb_m3, ws_0, ws_i, ws_l, ws_r, kI_s, kL_s, kR_s, lg_0, lg_s, ls_0, ls_s, ik_i, ik_l, ik_r, ik_n, kl_0, kl_s, dh_st1, dh_st2, Option.toList_some, Option.toList_none, List.cons_append, List.nil_append, Bool.false_eq_true, if_false, if_true, true_and, and_true, true_or, or_true, Nat.zero_le, Nat.reduceAdd, Nat.reduceLeDiff, ↓reduceIte, Int.reduceEq, Int.reduceLT, Int.reduceLE, Int.reduceNe, Int.reduceToNat, Int.reduceNeg, Nat.reduceEqDiff, ui_s, ui_2, ul_1, ul_s, wp_ite, sw_c, sw_n, oi_0, oi_1, oi_m1, lc_eq, lc_ne, b01_eq0, b01_ne0, b01_ok, b01_01, z_01, o_01, ne_eq, not_true, not_false_eq_true, imp_self, implies_true, false_implies, and_false, false_and, false_or, or_false, Int.add_zero]); try simp (discharger := omega) only [(eq_true q), ↓if_pos, ↓if_neg, and_iff_right, dh_wr_id, ui_s, ui_p, ui_k, ui_2, ul_1, ul_s, ul_p, ul_k, true_and, and_true, and_false, false_and, if_false, if_true, not_true, not_false_eq_true, imp_self, implies_true, false_implies])
    · ((try simp only [u182_0, bk182_0, u182_12, bk182_12, u182_13, bk182_13, u182_14, bk182_14, (eq_false q), wb_ldi, wb_ldl, wb_ldr, wb_iinc, wb_sti, wb_str, wb_stl, wb_ci, wb_cl, wb_i0, wb_i1, wb_i2, wb_i5, wb_i6, wb_i7, wb_i8, wb_i9, wb_i3, wb_i4, wb_l0, wb_l1, wb_l2, wb_l5, wb_l6, wb_l3, wb_l4, wb_s0, wb_s1, wb_s2, wb_i2l, wb_l2i, wb_i2b, wb_lcmp, wb_dupi, wb_dupr, wb_popi, wb_popr, wb_ic0, wb_if0, wb_ic1, wb_if1, wb_ic2, wb_if2, wb_ic3, wb_if3, wb_ic4, wb_if4, wb_ic5, wb_if5, wb_nu0, wb_nu1, wb_nn0, wb_nn1, wb_go, wb_fall, wb_ri, wb_rl, wb_rr, wb_rz, wb_rv, wb_gi, wb_gr, wb_pi, aK_s, aN_s, aZ_s, k18_1, k18_8, k34_3, k34_4, k1_1, k2_2, k128_1, k128_2, k128_8, k567_5, k567_6, k567_7, wb_iald, wb_bald, wb_lald, wb_aald, wb_iast, wb_last, wb_bast, wb_len, wb_null, wb_sw, wb_cs1, wb_cs2, wb_cs3, wb_cs4, wb_cs5, wb_cs6, wb_cs7, wb_cv0, wb_cv1, wb_cv2, wb_cv3, wb_cv4, wb_cv5, wb_cv6, wb_m0, wb_m1, wb_m2, wb_m3, ws_0, ws_i, ws_l, ws_r, kI_s, kL_s, kR_s, lg_0, lg_s, ls_0, ls_s, ik_i, ik_l, ik_r, ik_n, kl_0, kl_s, dh_st1, dh_st2, Option.toList_some, Option.toList_none, List.cons_append, List.nil_append, Bool.false_eq_true, if_false, if_true, true_and, and_true, true_or, or_true, Nat.zero_le, Nat.reduceAdd, Nat.reduceLeDiff, ↓reduceIte, Int.reduceEq, Int.reduceLT, Int.reduceLE, Int.reduceNe, Int.reduceToNat, Int.reduceNeg, Nat.reduceEqDiff, ui_s, ui_2, ul_1, ul_s, wp_ite, sw_c, sw_n, oi_0, oi_1, oi_m1, lc_eq, lc_ne, b01_eq0, b01_ne0, b01_ok, b01_01, z_01, o_01, ne_eq, not_true, not_false_eq_true, imp_self, implies_true, false_implies, and_false, false_and, false_or, or_false, Int.add_zero]); try simp (discharger := omega) only [(eq_false q), ↓if_pos, ↓if_neg, and_iff_right, dh_wr_id, ui_s, ui_p, ui_k, ui_2, ul_1, ul_s, ul_p, ul_k, true_and, and_true, and_false, false_and, if_false, if_true, not_true, not_false_eq_true, imp_self, implies_true, false_implies])
end NA
