/-! ===== law: the reference's rules one after the other; the meaning of code ===== -/
section MI
variable {d : Nat} {Q K : Option dh_V → dh_AH → Prop} {h h' h'' : dh_AH} {c : Int → Int} {n p o x y v f l : Int} {a b m bs k q : Nat}
/-- the end of the reading -/
def G6 (d : Nat) (Q : Option dh_V → dh_AH → Prop) (l n g : Int) (h : dh_AH) : Prop := dh_wp dh_sh (dh_wpM (d + 8)) (dh_bl 181) Q 6 [some (.inr (.inr (some 147))), some (.inl l), some (.inl n), some (.inl g)] [] h
def G3 (d : Nat) (Q : Option dh_V → dh_AH → Prop) (l n g : Int) (h : dh_AH) : Prop := dh_wp dh_sh (dh_wpM (d + 8)) (dh_bl 181) Q 3 [some (.inr (.inr (some 147))), some (.inl l), some (.inl n), some (.inl g)] [] h
theorem G3_0 (z : G6 d Q l n 0 h) : G3 d Q l n 0 h := by
  unfold G3
  rw [u181_3]
  ((try simp only [bk181_3, wb_ldi, wb_ldl, wb_ldr, wb_iinc, wb_sti, wb_str, wb_stl, wb_ci, wb_cl, wb_i0, wb_i1, wb_i2, wb_i5, wb_i6, wb_i7, wb_i8, wb_i9, wb_i3, wb_i4, wb_l0, wb_l1, wb_l2, wb_l5, wb_l6, wb_l3, wb_l4, wb_s0, wb_s1, wb_s2, wb_i2l, wb_l2i, wb_i2b, wb_lcmp, wb_dupi, wb_dupr, wb_popi, wb_popr, wb_ic0, wb_if0, wb_ic1, wb_if1, wb_ic2, wb_if2, wb_ic3, wb_if3, wb_ic4, wb_if4, wb_ic5, wb_if5, wb_nu0, wb_nu1, wb_nn0, wb_nn1, wb_go, wb_fall, wb_ri, wb_rl, wb_rr, wb_rz, wb_rv, wb_gi, wb_gr, wb_pi, aK_s, aN_s, aZ_s, k18_1, k18_8, k34_3, k34_4, k1_1, k2_2, k128_1, k128_2, k128_8, k567_5, k567_6, k567_7, wb_iald, wb_bald, wb_lald, wb_aald, wb_iast, wb_last, wb_bast, wb_len, wb_null, wb_sw, wb_cs1, wb_cs2, wb_cs3, wb_cs4, wb_cs5, wb_cs6, wb_cs7, wb_cv0, wb_cv1, wb_cv2, wb_cv3, wb_cv4, wb_cv5, wb_cv6, wb_m0, wb_m1, wb_m2, wb_m3, ws_0, ws_i, ws_l, ws_r, kI_s, kL_s, kR_s, lg_0, lg_s, ls_0, ls_s, ik_i, ik_l, ik_r, ik_n, kl_0, kl_s, dh_st1, dh_st2, Option.toList_some, Option.toList_none, List.cons_append, List.nil_append, Bool.false_eq_true, if_false, if_true, true_and, and_true, true_or, or_true, Nat.zero_le, Nat.reduceAdd, Nat.reduceLeDiff, ↓reduceIte, Int.reduceEq, Int.reduceLT, Int.reduceLE, Int.reduceNe, Int.reduceToNat, Int.reduceNeg, Nat.reduceEqDiff, ui_s, ui_2, ul_1, ul_s, wp_ite, sw_c, sw_n, oi_0, oi_1, oi_m1, lc_eq, lc_ne, b01_eq0, b01_ne0, b01_ok, b01_01, z_01, o_01, ne_eq, not_true, not_false_eq_true, imp_self, implies_true, false_implies, and_false, false_and, false_or, or_false, Int.add_zero]); try simp (discharger := omega) only [↓if_pos, ↓if_neg, and_iff_right, dh_wr_id, ui_s, ui_p, ui_k, ui_2, ul_1, ul_s, ul_p, ul_k, true_and, and_true, and_false, false_and, if_false, if_true, not_true, not_false_eq_true, imp_self, implies_true, false_implies])
  exact z
theorem l_rules (hn : ∀ p, n ≤ p → c p = -1) (m : Nat) : ∀ (q a : Nat) (p : Int) (h : dh_AH) (K : Option dh_V → dh_AH → Prop), q + m = 9 → MR c n p a q h → (∀ h', G3 d Q l n 0 h' → K (some (.inl 0)) h') → (∀ h', G3 d Q l n 1 h' → K (some (.inl 1)) h') → ((pRs c n m q p).1 ≠ 0 → ∀ h', fr sN h h' → h'.1 147 13 = (pRs c n m q p).1 → G6 d Q l n 0 h') → ((pRs c n m q p).1 = 0 → ∀ h', fr sN h h' → RRu h'.1 q a (pRs c n m q p).2 → kR q a h h' → h'.1 147 16 ≤ 160 → G6 d Q l n 1 h') → dh_wpM (d + 8) 180 [.inr (.inr (some 147))] h K := by
  induction m with
  | zero => intro q a p h K hq M; have := M.2.2.2.2.2.2.2; omega
  | succ m ih =>
    intro q a p h K hq M hK0 hK1 hQ1 hQ2
    obtain ⟨T, e1, e2, e3, l1, pn, n1, q8⟩ := id M
    have hr : pRs c n (m + 1) q p = pRs c n (m + 1) q p := rfl
    conv at hr => rhs; rw [pRs]
    refine y_rule hn M (fun z h2 f2 k2 => ?_) (fun z h2 f2 M2 k2 b1 b2 b3 b4 b5 => ?_)
    · rw [if_pos z] at hr
      exact hK0 _ (G3_0 (hQ1 (by rw [hr]; exact z) h2 f2 (by rw [hr, k2])))
    · rw [if_neg (by omega)] at hr
      obtain ⟨y1, y2, y3, y4, y5, y6, y7, y8, y9⟩ := wR hn (by omega) pn z
      obtain ⟨T2, g1, g2, g3, g4, g5, g6, g7⟩ := id M2
      have pp : 0 ≤ pRp c p := by omega
      refine hK1 _ ?_
      unfold G3
      rw [u181_3]
      by_cases e : n ≤ pRp c p
      · rw [if_pos e] at hr
        ((try simp only [bk181_3, sh147, g1, T2.1, show pRp c p ≥ n from e, wb_ldi, wb_ldl, wb_ldr, wb_iinc, wb_sti, wb_str, wb_stl, wb_ci, wb_cl, wb_i0, wb_i1, wb_i2, wb_i5, wb_i6, wb_i7, wb_i8, wb_i9, wb_i3, wb_i4, wb_l0, wb_l1, wb_l2, wb_l5, wb_l6, wb_l3, wb_l4, wb_s0, wb_s1, wb_s2, wb_i2l, wb_l2i, wb_i2b, wb_lcmp, wb_dupi, wb_dupr, wb_popi, wb_popr, wb_ic0, wb_if0, wb_ic1, wb_if1, wb_ic2, wb_if2, wb_ic3, wb_if3, wb_ic4, wb_if4, wb_ic5, wb_if5, wb_nu0, wb_nu1, wb_nn0, wb_nn1, wb_go, wb_fall, wb_ri, wb_rl, wb_rr, wb_rz, wb_rv, wb_gi, wb_gr, wb_pi, aK_s, aN_s, aZ_s, k18_1, k18_8, k34_3, k34_4, k1_1, k2_2, k128_1, k128_2, k128_8, k567_5, k567_6, k567_7, wb_iald, wb_bald, wb_lald, wb_aald, wb_iast, wb_last, wb_bast, wb_len, wb_null, wb_sw, wb_cs1, wb_cs2, wb_cs3, wb_cs4, wb_cs5, wb_cs6, wb_cs7, wb_cv0, wb_cv1, wb_cv2, wb_cv3, wb_cv4, wb_cv5, wb_cv6, wb_m0, wb_m1, wb_m2, wb_m3, ws_0, ws_i, ws_l, ws_r, kI_s, kL_s, kR_s, lg_0, lg_s, ls_0, ls_s, ik_i, ik_l, ik_r, ik_n, kl_0, kl_s, dh_st1, dh_st2, Option.toList_some, Option.toList_none, List.cons_append, List.nil_append, Bool.false_eq_true, if_false, if_true, true_and, and_true, true_or, or_true, Nat.zero_le, Nat.reduceAdd, Nat.reduceLeDiff, ↓reduceIte, Int.reduceEq, Int.reduceLT, Int.reduceLE, Int.reduceNe, Int.reduceToNat, Int.reduceNeg, Nat.reduceEqDiff, ui_s, ui_2, ul_1, ul_s, wp_ite, sw_c, sw_n, oi_0, oi_1, oi_m1, lc_eq, lc_ne, b01_eq0, b01_ne0, b01_ok, b01_01, z_01, o_01, ne_eq, not_true, not_false_eq_true, imp_self, implies_true, false_implies, and_false, false_and, false_or, or_false, Int.add_zero]); try simp (discharger := omega) only [sh147, g1, T2.1, show pRp c p ≥ n from e, ↓if_pos, ↓if_neg, and_iff_right, dh_wr_id, ui_s, ui_p, ui_k, ui_2, ul_1, ul_s, ul_p, ul_k, true_and, and_true, and_false, false_and, if_false, if_true, not_true, not_false_eq_true, imp_self, implies_true, false_implies])
        refine hQ2 (by rw [hr]) h2 f2 ?_ k2 (by omega)
        rw [hr]
        exact ⟨b1, b2, b3, b4, b5, g3, g2⟩
      · rw [if_neg e] at hr
        ((try simp only [bk181_3, sh147, g1, T2.1, show ¬ pRp c p ≥ n by omega, wb_ldi, wb_ldl, wb_ldr, wb_iinc, wb_sti, wb_str, wb_stl, wb_ci, wb_cl, wb_i0, wb_i1, wb_i2, wb_i5, wb_i6, wb_i7, wb_i8, wb_i9, wb_i3, wb_i4, wb_l0, wb_l1, wb_l2, wb_l5, wb_l6, wb_l3, wb_l4, wb_s0, wb_s1, wb_s2, wb_i2l, wb_l2i, wb_i2b, wb_lcmp, wb_dupi, wb_dupr, wb_popi, wb_popr, wb_ic0, wb_if0, wb_ic1, wb_if1, wb_ic2, wb_if2, wb_ic3, wb_if3, wb_ic4, wb_if4, wb_ic5, wb_if5, wb_nu0, wb_nu1, wb_nn0, wb_nn1, wb_go, wb_fall, wb_ri, wb_rl, wb_rr, wb_rz, wb_rv, wb_gi, wb_gr, wb_pi, aK_s, aN_s, aZ_s, k18_1, k18_8, k34_3, k34_4, k1_1, k2_2, k128_1, k128_2, k128_8, k567_5, k567_6, k567_7, wb_iald, wb_bald, wb_lald, wb_aald, wb_iast, wb_last, wb_bast, wb_len, wb_null, wb_sw, wb_cs1, wb_cs2, wb_cs3, wb_cs4, wb_cs5, wb_cs6, wb_cs7, wb_cv0, wb_cv1, wb_cv2, wb_cv3, wb_cv4, wb_cv5, wb_cv6, wb_m0, wb_m1, wb_m2, wb_m3, ws_0, ws_i, ws_l, ws_r, kI_s, kL_s, kR_s, lg_0, lg_s, ls_0, ls_s, ik_i, ik_l, ik_r, ik_n, kl_0, kl_s, dh_st1, dh_st2, Option.toList_some, Option.toList_none, List.cons_append, List.nil_append, Bool.false_eq_true, if_false, if_true, true_and, and_true, true_or, or_true, Nat.zero_le, Nat.reduceAdd, Nat.reduceLeDiff, ↓reduceIte, Int.reduceEq, Int.reduceLT, Int.reduceLE, Int.reduceNe, Int.reduceToNat, Int.reduceNeg, Nat.reduceEqDiff, ui_s, ui_2, ul_1, ul_s, wp_ite, sw_c, sw_n, oi_0, oi_1, oi_m1, lc_eq, lc_ne, b01_eq0, b01_ne0, b01_ok, b01_01, z_01, o_01, ne_eq, not_true, not_false_eq_true, imp_self, implies_true, false_implies, and_false, false_and, false_or, or_false, Int.add_zero]); try simp (discharger := omega) only [sh147, g1, T2.1, show ¬ pRp c p ≥ n by omega, ↓if_pos, ↓if_neg, and_iff_right, dh_wr_id, ui_s, ui_p, ui_k, ui_2, ul_1, ul_s, ul_p, ul_k, true_and, and_true, and_false, false_and, if_false, if_true, not_true, not_false_eq_true, imp_self, implies_true, false_implies])
        rw [y_sign T2 (by omega) g1 pp (by omega)]
        by_cases y : c (pRp c p) = 59
        · rw [if_pos y] at hr ⊢
          have lt := c_lt hn (p := pRp c p) (by omega)
          simp only [sh147, wb_ldi, wb_ldl, wb_ldr, wb_iinc, wb_sti, wb_str, wb_stl, wb_ci, wb_cl, wb_i0, wb_i1, wb_i2, wb_i5, wb_i6, wb_i7, wb_i8, wb_i9, wb_i3, wb_i4, wb_l0, wb_l1, wb_l2, wb_l5, wb_l6, wb_l3, wb_l4, wb_s0, wb_s1, wb_s2, wb_i2l, wb_l2i, wb_i2b, wb_lcmp, wb_dupi, wb_dupr, wb_popi, wb_popr, wb_ic0, wb_if0, wb_ic1, wb_if1, wb_ic2, wb_if2, wb_ic3, wb_if3, wb_ic4, wb_if4, wb_ic5, wb_if5, wb_nu0, wb_nu1, wb_nn0, wb_nn1, wb_go, wb_fall, wb_ri, wb_rl, wb_rr, wb_rz, wb_rv, wb_gi, wb_gr, wb_pi, aK_s, aN_s, aZ_s, k18_1, k18_8, k34_3, k34_4, k1_1, k2_2, k128_1, k128_2, k128_8, k567_5, k567_6, k567_7, wb_iald, wb_bald, wb_lald, wb_aald, wb_iast, wb_last, wb_bast, wb_len, wb_null, wb_sw, wb_cs1, wb_cs2, wb_cs3, wb_cs4, wb_cs5, wb_cs6, wb_cs7, wb_cv0, wb_cv1, wb_cv2, wb_cv3, wb_cv4, wb_cv5, wb_cv6, wb_m0, wb_m1, wb_m2, wb_m3, ws_0, ws_i, ws_l, ws_r, kI_s, kL_s, kR_s, lg_0, lg_s, ls_0, ls_s, ik_i, ik_l, ik_r, ik_n, kl_0, kl_s, dh_st1, dh_st2, Option.toList_some, Option.toList_none, List.cons_append, List.nil_append, Bool.false_eq_true, if_false, if_true, true_and, and_true, true_or, or_true, Nat.zero_le, Nat.reduceAdd, Nat.reduceLeDiff, ↓reduceIte, Int.reduceEq, Int.reduceLT, Int.reduceLE, Int.reduceNe, Int.reduceToNat, Int.reduceNeg, Nat.reduceEqDiff, ui_s, ui_2, ul_1, ul_s, wp_ite, sw_c, sw_n, oi_0, oi_1, oi_m1, lc_eq, lc_ne, b01_eq0, b01_ne0, b01_ok, b01_01, z_01, o_01, ne_eq, not_true, not_false_eq_true, imp_self, implies_true, false_implies, and_false, false_and, false_or, or_false, Int.add_zero]
          have F3 : fr (fun p k => p = 147 ∧ k = 11) h2 (dh_ui h2 147 11 (pRp c p + 1)) := fr_ui ⟨rfl, rfl⟩
          have M3 : MR c n (pRp c p + 1) (a + (pRe c p).2.2.length + (pRc c p).2.2.2.length) (q + 1) (dh_ui h2 147 11 (pRp c p + 1)) := ⟨Tm_fr F3 (fun p k z => by omega) T2, by simp (discharger := omega) only [↓if_pos, ↓if_neg, and_iff_right, dh_wr_id, ui_s, ui_p, ui_k, ui_2, ul_1, ul_s, ul_p, ul_k, true_and, and_true, and_false, false_and, if_false, if_true, not_true, not_false_eq_true, imp_self, implies_true, false_implies], by simp (discharger := omega) only [g2, ↓if_pos, ↓if_neg, and_iff_right, dh_wr_id, ui_s, ui_p, ui_k, ui_2, ul_1, ul_s, ul_p, ul_k, true_and, and_true, and_false, false_and, if_false, if_true, not_true, not_false_eq_true, imp_self, implies_true, false_implies], by simp (discharger := omega) only [g3, ↓if_pos, ↓if_neg, and_iff_right, dh_wr_id, ui_s, ui_p, ui_k, ui_2, ul_1, ul_s, ul_p, ul_k, true_and, and_true, and_false, false_and, if_false, if_true, not_true, not_false_eq_true, imp_self, implies_true, false_implies], by omega, by omega, n1, by omega⟩
          generalize dh_ui h2 147 11 (pRp c p + 1) = h3 at *
          refine ih (q + 1) _ (pRp c p + 1) h3 _ (by omega) M3 (fun h' z => ?_) (fun h' z => ?_) (fun x h4 f4 k4 => ?_) (fun x h4 f4 R4 k4 e16 => ?_)
          · ((try simp only [u181_4, bk181_4, u181_5, bk181_5, wb_ldi, wb_ldl, wb_ldr, wb_iinc, wb_sti, wb_str, wb_stl, wb_ci, wb_cl, wb_i0, wb_i1, wb_i2, wb_i5, wb_i6, wb_i7, wb_i8, wb_i9, wb_i3, wb_i4, wb_l0, wb_l1, wb_l2, wb_l5, wb_l6, wb_l3, wb_l4, wb_s0, wb_s1, wb_s2, wb_i2l, wb_l2i, wb_i2b, wb_lcmp, wb_dupi, wb_dupr, wb_popi, wb_popr, wb_ic0, wb_if0, wb_ic1, wb_if1, wb_ic2, wb_if2, wb_ic3, wb_if3, wb_ic4, wb_if4, wb_ic5, wb_if5, wb_nu0, wb_nu1, wb_nn0, wb_nn1, wb_go, wb_fall, wb_ri, wb_rl, wb_rr, wb_rz, wb_rv, wb_gi, wb_gr, wb_pi, aK_s, aN_s, aZ_s, k18_1, k18_8, k34_3, k34_4, k1_1, k2_2, k128_1, k128_2, k128_8, k567_5, k567_6, k567_7, wb_iald, wb_bald, wb_lald, wb_aald, wb_iast, wb_last, wb_bast, wb_len, wb_null, wb_sw, wb_cs1, wb_cs2, wb_cs3, wb_cs4, wb_cs5, wb_cs6, wb_cs7, wb_cv0, wb_cv1, wb_cv2, wb_cv3, wb_cv4, wb_cv5, wb_cv6, wb_m0, wb_m1, wb_m2, wb_m3, ws_0, ws_i, ws_l, ws_r, kI_s, kL_s, kR_s, lg_0, lg_s, ls_0, ls_s, ik_i, ik_l, ik_r, ik_n, kl_0, kl_s, dh_st1, dh_st2, Option.toList_some, Option.toList_none, List.cons_append, List.nil_append, Bool.false_eq_true, if_false, if_true, true_and, and_true, true_or, or_true, Nat.zero_le, Nat.reduceAdd, Nat.reduceLeDiff, ↓reduceIte, Int.reduceEq, Int.reduceLT, Int.reduceLE, Int.reduceNe, Int.reduceToNat, Int.reduceNeg, Nat.reduceEqDiff, ui_s, ui_2, ul_1, ul_s, wp_ite, sw_c, sw_n, oi_0, oi_1, oi_m1, lc_eq, lc_ne, b01_eq0, b01_ne0, b01_ok, b01_01, z_01, o_01, ne_eq, not_true, not_false_eq_true, imp_self, implies_true, false_implies, and_false, false_and, false_or, or_false, Int.add_zero]); try simp (discharger := omega) only [↓if_pos, ↓if_neg, and_iff_right, dh_wr_id, ui_s, ui_p, ui_k, ui_2, ul_1, ul_s, ul_p, ul_k, true_and, and_true, and_false, false_and, if_false, if_true, not_true, not_false_eq_true, imp_self, implies_true, false_implies])
            exact z
          · ((try simp only [u181_5, bk181_5, wb_ldi, wb_ldl, wb_ldr, wb_iinc, wb_sti, wb_str, wb_stl, wb_ci, wb_cl, wb_i0, wb_i1, wb_i2, wb_i5, wb_i6, wb_i7, wb_i8, wb_i9, wb_i3, wb_i4, wb_l0, wb_l1, wb_l2, wb_l5, wb_l6, wb_l3, wb_l4, wb_s0, wb_s1, wb_s2, wb_i2l, wb_l2i, wb_i2b, wb_lcmp, wb_dupi, wb_dupr, wb_popi, wb_popr, wb_ic0, wb_if0, wb_ic1, wb_if1, wb_ic2, wb_if2, wb_ic3, wb_if3, wb_ic4, wb_if4, wb_ic5, wb_if5, wb_nu0, wb_nu1, wb_nn0, wb_nn1, wb_go, wb_fall, wb_ri, wb_rl, wb_rr, wb_rz, wb_rv, wb_gi, wb_gr, wb_pi, aK_s, aN_s, aZ_s, k18_1, k18_8, k34_3, k34_4, k1_1, k2_2, k128_1, k128_2, k128_8, k567_5, k567_6, k567_7, wb_iald, wb_bald, wb_lald, wb_aald, wb_iast, wb_last, wb_bast, wb_len, wb_null, wb_sw, wb_cs1, wb_cs2, wb_cs3, wb_cs4, wb_cs5, wb_cs6, wb_cs7, wb_cv0, wb_cv1, wb_cv2, wb_cv3, wb_cv4, wb_cv5, wb_cv6, wb_m0, wb_m1, wb_m2, wb_m3, ws_0, ws_i, ws_l, ws_r, kI_s, kL_s, kR_s, lg_0, lg_s, ls_0, ls_s, ik_i, ik_l, ik_r, ik_n, kl_0, kl_s, dh_st1, dh_st2, Option.toList_some, Option.toList_none, List.cons_append, List.nil_append, Bool.false_eq_true, if_false, if_true, true_and, and_true, true_or, or_true, Nat.zero_le, Nat.reduceAdd, Nat.reduceLeDiff, ↓reduceIte, Int.reduceEq, Int.reduceLT, Int.reduceLE, Int.reduceNe, Int.reduceToNat, Int.reduceNeg, Nat.reduceEqDiff, ui_s, ui_2, ul_1, ul_s, wp_ite, sw_c, sw_n, oi_0, oi_1, oi_m1, lc_eq, lc_ne, b01_eq0, b01_ne0, b01_ok, b01_01, z_01, o_01, ne_eq, not_true, not_false_eq_true, imp_self, implies_true, false_implies, and_false, false_and, false_or, or_false, Int.add_zero]); try simp (discharger := omega) only [↓if_pos, ↓if_neg, and_iff_right, dh_wr_id, ui_s, ui_p, ui_k, ui_2, ul_1, ul_s, ul_p, ul_k, true_and, and_true, and_false, false_and, if_false, if_true, not_true, not_false_eq_true, imp_self, implies_true, false_implies])
            exact z
          · rw [if_pos x] at hr
            exact hQ1 (by rw [hr]; exact x) h4 (fr_trans f2 (fr_trans (fr_mono F3 (fun p k z => by omega)) f4)) (by rw [hr, k4])
          · rw [if_neg (by omega)] at hr
            refine hQ2 (by rw [hr]) h4 (fr_trans f2 (fr_trans (fr_mono F3 (fun p k z => by omega)) f4)) ?_ ?_ e16
            · rw [hr]
              have U := k4.2 q (by omega)
              rw [F3.1 _ _ (by omega), F3.1 _ _ (by omega), F3.1 _ _ (by omega), F3.1 _ _ (by omega)] at U
              refine ⟨U.1.trans b1, U.2.1.trans b2, U.2.2.1.trans b3, U.2.2.2.trans b4, HR_cong (fun i i0 i1 => ?_) b5, R4⟩
              rw [List.length_append, ← Nat.add_assoc] at i1
              rw [k4.1 i i1, F3.1 _ _ (by omega)]
            · refine ⟨fun i hi => ?_, fun i hi => ?_⟩
              · rw [k4.1 i (by omega), F3.1 _ _ (by omega), k2.1 i hi]
              · have U := k4.2 i (by omega)
                rw [F3.1 _ _ (by omega), F3.1 _ _ (by omega), F3.1 _ _ (by omega), F3.1 _ _ (by omega)] at U
                have V := k2.2 i hi
                exact ⟨U.1.trans V.1, U.2.1.trans V.2.1, U.2.2.1.trans V.2.2.1, U.2.2.2.trans V.2.2.2⟩
        · rw [if_neg y] at hr ⊢
          ((try simp only [u181_4, bk181_4, u181_5, bk181_5, sh147, wb_ldi, wb_ldl, wb_ldr, wb_iinc, wb_sti, wb_str, wb_stl, wb_ci, wb_cl, wb_i0, wb_i1, wb_i2, wb_i5, wb_i6, wb_i7, wb_i8, wb_i9, wb_i3, wb_i4, wb_l0, wb_l1, wb_l2, wb_l5, wb_l6, wb_l3, wb_l4, wb_s0, wb_s1, wb_s2, wb_i2l, wb_l2i, wb_i2b, wb_lcmp, wb_dupi, wb_dupr, wb_popi, wb_popr, wb_ic0, wb_if0, wb_ic1, wb_if1, wb_ic2, wb_if2, wb_ic3, wb_if3, wb_ic4, wb_if4, wb_ic5, wb_if5, wb_nu0, wb_nu1, wb_nn0, wb_nn1, wb_go, wb_fall, wb_ri, wb_rl, wb_rr, wb_rz, wb_rv, wb_gi, wb_gr, wb_pi, aK_s, aN_s, aZ_s, k18_1, k18_8, k34_3, k34_4, k1_1, k2_2, k128_1, k128_2, k128_8, k567_5, k567_6, k567_7, wb_iald, wb_bald, wb_lald, wb_aald, wb_iast, wb_last, wb_bast, wb_len, wb_null, wb_sw, wb_cs1, wb_cs2, wb_cs3, wb_cs4, wb_cs5, wb_cs6, wb_cs7, wb_cv0, wb_cv1, wb_cv2, wb_cv3, wb_cv4, wb_cv5, wb_cv6, wb_m0, wb_m1, wb_m2, wb_m3, ws_0, ws_i, ws_l, ws_r, kI_s, kL_s, kR_s, lg_0, lg_s, ls_0, ls_s, ik_i, ik_l, ik_r, ik_n, kl_0, kl_s, dh_st1, dh_st2, Option.toList_some, Option.toList_none, List.cons_append, List.nil_append, Bool.false_eq_true, if_false, if_true, true_and, and_true, true_or, or_true, Nat.zero_le, Nat.reduceAdd, Nat.reduceLeDiff, ↓reduceIte, Int.reduceEq, Int.reduceLT, Int.reduceLE, Int.reduceNe, Int.reduceToNat, Int.reduceNeg, Nat.reduceEqDiff, ui_s, ui_2, ul_1, ul_s, wp_ite, sw_c, sw_n, oi_0, oi_1, oi_m1, lc_eq, lc_ne, b01_eq0, b01_ne0, b01_ok, b01_01, z_01, o_01, ne_eq, not_true, not_false_eq_true, imp_self, implies_true, false_implies, and_false, false_and, false_or, or_false, Int.add_zero]); try simp (discharger := omega) only [sh147, ↓if_pos, ↓if_neg, and_iff_right, dh_wr_id, ui_s, ui_p, ui_k, ui_2, ul_1, ul_s, ul_p, ul_k, true_and, and_true, and_false, false_and, if_false, if_true, not_true, not_false_eq_true, imp_self, implies_true, false_implies])
          refine G3_0 (hQ1 (by rw [hr]; simp only []; omega) _ (fr_trans f2 (fr_ui (by omega))) ?_)
          rw [hr]; simp (discharger := omega) only [↓if_pos, ↓if_neg, and_iff_right, dh_wr_id, ui_s, ui_p, ui_k, ui_2, ul_1, ul_s, ul_p, ul_k, true_and, and_true, and_false, false_and, if_false, if_true, not_true, not_false_eq_true, imp_self, implies_true, false_implies]
end MI
/-! ===== what code comes to ===== -/
/-- a sign's answer -/
def jO (op a b : Int) : Option Int :=
  if op = 2 then some (dh_wr (a + b)) else if op = 3 then some (dh_wr (a - b)) else if op = 4 then some (dh_wr (a * b))
  else if op = 5 then (if b = 0 then none else some (dh_wr (a.tdiv b))) else if op = 6 then (if b = 0 then none else some (a.tmod b))
  else if op = 7 then some (if a < b then 1 else 0) else if op = 8 then some (if b < a then 1 else 0) else some (if a = b then 1 else 0)
/-- what is left behind the code T: an answer (refused: 0), or nothing that has a meaning -/
def ex (hp la x : Int) : Nat → List TK → List Int → Option Int
  | _, [], st => if st.length = 1 then st.head? else none
  | 0, _ :: _, _ => none
  | n + 1, t :: T, st =>
    if t.1 = 0 then (if st.length < 20 ∧ 0 ≤ t.2 ∧ t.2 ≤ 100000 then ex hp la x n T (t.2 :: st) else none)
    else if t.1 = 1 then (if st.length < 20 ∧ (t.2 = 0 ∨ t.2 = 1 ∨ t.2 = 2) then ex hp la x n T ((if t.2 = 0 then hp else if t.2 = 1 then la else x) :: st) else none)
    else if t.1 = 10 then (if 1 ≤ st.length ∧ t.2 = 0 then ex hp la x n T (dh_wr (1 - st.headD 0) :: st.tail) else none)
    else if t.1 = 11 ∨ t.1 = 12 then (if 1 ≤ st.length ∧ 1 ≤ t.2 ∧ t.2 ≤ (T.length : Int) + 1 then (if st.headD 0 = t.1 - 11 then ex hp la x n (T.drop (t.2 - 1).toNat) st else ex hp la x n T st.tail) else none)
    else if 2 ≤ t.1 ∧ t.1 ≤ 9 then (if 2 ≤ st.length ∧ t.2 = 0 then (jO t.1 (st.tail.headD 0) (st.headD 0)).elim (some 0) (fun w => ex hp la x n T (w :: st.tail.tail)) else none)
    else none
theorem ex_s {hp la x : Int} {n : Nat} {t : TK} {T : List TK} {st : List Int} : ex hp la x (n + 1) (t :: T) st =
    if t.1 = 0 then (if st.length < 20 ∧ 0 ≤ t.2 ∧ t.2 ≤ 100000 then ex hp la x n T (t.2 :: st) else none)
    else if t.1 = 1 then (if st.length < 20 ∧ (t.2 = 0 ∨ t.2 = 1 ∨ t.2 = 2) then ex hp la x n T ((if t.2 = 0 then hp else if t.2 = 1 then la else x) :: st) else none)
    else if t.1 = 10 then (if 1 ≤ st.length ∧ t.2 = 0 then ex hp la x n T (dh_wr (1 - st.headD 0) :: st.tail) else none)
    else if t.1 = 11 ∨ t.1 = 12 then (if 1 ≤ st.length ∧ 1 ≤ t.2 ∧ t.2 ≤ (T.length : Int) + 1 then (if st.headD 0 = t.1 - 11 then ex hp la x n (T.drop (t.2 - 1).toNat) st else ex hp la x n T st.tail) else none)
    else if 2 ≤ t.1 ∧ t.1 ≤ 9 then (if 2 ≤ st.length ∧ t.2 = 0 then (jO t.1 (st.tail.headD 0) (st.headD 0)).elim (some 0) (fun w => ex hp la x n T (w :: st.tail.tail)) else none)
    else none := by rw [ex]
theorem ex_fuel {hp la x : Int} : ∀ (n m : Nat) (T : List TK) (st : List Int), T.length ≤ n → T.length ≤ m → ex hp la x n T st = ex hp la x m T st
  | n, m, [], st, _, _ => by cases n <;> cases m <;> rfl
  | 0, m, t :: T, st, a, b => by simp only [List.length_cons] at a; omega
  | n + 1, 0, t :: T, st, a, b => by simp only [List.length_cons] at b; omega
  | n + 1, m + 1, t :: T, st, a, b => by
    simp only [List.length_cons] at a b
    have I := fun st => ex_fuel (hp := hp) (la := la) (x := x) n m T st (by omega) (by omega)
    have J := fun k st => ex_fuel (hp := hp) (la := la) (x := x) n m (T.drop k) st (by rw [List.length_drop]; omega) (by rw [List.length_drop]; omega)
    rw [ex_s, ex_s]
    simp only [I, J]
/-- with as much fuel as it takes -/
def exl (hp la x : Int) (T : List TK) (st : List Int) : Option Int := ex hp la x T.length T st
section EX
variable {hp la x : Int} {T L M : List TK} {st : List Int} {k : Nat} {v w y : Int}
theorem ex_l {n : Nat} (h : T.length ≤ n) : ex hp la x n T st = exl hp la x T st := ex_fuel n T.length T st h (Nat.le_refl _)
theorem exl_nil : exl hp la x [] [v] = some v := rfl
theorem exl_num (q : st.length < 20) (v0 : 0 ≤ v) (v1 : v ≤ 100000) : exl hp la x ((0, v) :: T) st = exl hp la x T (v :: st) := by
  unfold exl
  rw [List.length_cons, ex_s, if_pos rfl, if_pos ⟨q, v0, v1⟩]
theorem exl_let (q : st.length < 20) (v0 : v = 0 ∨ v = 1 ∨ v = 2) : exl hp la x ((1, v) :: T) st = exl hp la x T ((if v = 0 then hp else if v = 1 then la else x) :: st) := by
  unfold exl
  rw [List.length_cons, ex_s, if_neg (by simp only []; omega), if_pos rfl, if_pos ⟨q, v0⟩]
theorem exl_not : exl hp la x ((10, 0) :: T) (v :: st) = exl hp la x T (dh_wr (1 - v) :: st) := by
  unfold exl
  rw [List.length_cons, ex_s, if_neg (by simp only []; omega), if_neg (by simp only []; omega), if_pos rfl, if_pos ⟨by simp, rfl⟩]
  rfl
theorem exl_jmp {op : Int} (o : op = 11 ∨ op = 12) (d : Nat) (hd : d ≤ T.length) : exl hp la x ((op, (d : Int) + 1) :: T) (v :: st) = if v = op - 11 then exl hp la x (T.drop d) (v :: st) else exl hp la x T st := by
  unfold exl
  rw [List.length_cons, ex_s, if_neg (by simp only []; omega), if_neg (by simp only []; omega), if_neg (by simp only []; omega), if_pos o, if_pos ⟨by simp, show 1 ≤ (d : Int) + 1 ∧ (d : Int) + 1 ≤ (T.length : Int) + 1 by omega⟩]
  simp only [List.headD_cons, List.tail_cons]
  rw [show ((d : Int) + 1 - 1).toNat = d by omega, ex_l (by rw [List.length_drop]; omega)]
  rfl
theorem exl_bin {op : Int} (o0 : 2 ≤ op) (o1 : op ≤ 9) : exl hp la x ((op, 0) :: T) (y :: v :: st) = (jO op v y).elim (some 0) (fun u => exl hp la x T (u :: st)) := by
  unfold exl
  rw [List.length_cons, ex_s, if_neg (by simp only []; omega), if_neg (by simp only []; omega), if_neg (by simp only []; omega), if_neg (by simp only []; omega), if_pos ⟨o0, o1⟩, if_pos ⟨by simp, rfl⟩]
  rfl
end EX
