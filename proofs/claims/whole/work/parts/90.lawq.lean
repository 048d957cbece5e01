/-! ===== law: the reference's conditions against the pure reading ===== -/
theorem addR_nil {op : Int} {R : List TK} : addR op [] R = R := if_pos rfl
theorem addR_cons {op : Int} {a R : List TK} (q : a ≠ []) : addR op a R = a ++ (op, (R.length : Int) + 1) :: R := if_neg q
/-- R is written from a on, but for the pending jumps -/
def gJ (a : Nat) (R : List TK) (PJ : List (Int × Nat)) (h h' : dh_AH) : Prop := fr sM h h' ∧ (∀ i, i < a → h'.1 156 i = h.1 156 i) ∧ HR (pt (js PJ) (a + R.length) (h'.1 156)) a R ∧ ∀ u, u ∈ PJ → a ≤ u.2 ∧ u.2 < a + R.length ∧ 0 ≤ h'.1 156 u.2 ∧ h'.1 156 u.2 < 16777216
def H2 (d : Nat) (Q : Option dh_V → dh_AH → Prop) (h : dh_AH) : Prop := dh_wp dh_sh (dh_wpM (d + 6)) (dh_bl 179) Q 2 [some (.inr (.inr (some 147)))] [] h
def H7 (d : Nat) (Q : Option dh_V → dh_AH → Prop) (h : dh_AH) : Prop := dh_wp dh_sh (dh_wpM (d + 6)) (dh_bl 179) Q 7 [some (.inr (.inr (some 147)))] [] h
def YQ (d : Nat) (c : Int → Int) (n o : Int) (G : Int → CR) : Prop := ∀ (p : Int) (a : Nat) (S : List Int) (nk : Nat) (h : dh_AH) (Q : Option dh_V → dh_AH → Prop), MS c n p o a (en (nots nk) ++ S) h → 11 ≤ wt S → ((a + nk : Nat) : Int) ≤ p → (nk : Int) ≤ o → ((G p).1 ≠ 0 → ∀ h', fr sM h h' → h'.1 147 13 = (G p).1 → Q (some (.inl 0)) h') → ((G p).1 = 0 → ∀ h', MS c n (G p).2.1 (o - nk) (a + (G p).2.2.2.length + nk) S h' → gQ a ((G p).2.2.2 ++ tk0 (nots nk)) h h' → H7 d Q h') → H2 d Q h
def YB (d : Nat) (c : Int → Int) (n o : Int) (G : Int → CR) (x0 : Int) (oJ' : Int → List (Int × Nat) → Prop) : Prop := ∀ (p : Int) (a : Nat) (S : List Int) (h : dh_AH) (Q : Option dh_V → dh_AH → Prop), MS c n p o a S h → x0 ≤ wt S → ((G p).1 ≠ 0 → ∀ h', fr sM h h' → h'.1 147 13 = (G p).1 → Q (some (.inl 0)) h') → ((G p).1 = 0 → ∀ h' PJ, MS c n (G p).2.1 o (a + (G p).2.2.2.length) (eJ PJ ++ S) h' → gJ a (G p).2.2.2 PJ h h' → oJ' (c (G p).2.1) PJ → H7 d Q h') → H2 d Q h
abbrev oJ1 (x : Int) (PJ : List (Int × Nat)) : Prop := x ≠ 38 ∧ ∀ u, u ∈ PJ → u.1 = 11
abbrev oJ0 (x : Int) (PJ : List (Int × Nat)) : Prop := (x ≠ 38 ∧ x ≠ 124) ∧ ∀ u, u ∈ PJ → u.1 = 11 ∨ u.1 = 12
section MG
variable {d : Nat} {Q K : Option dh_V → dh_AH → Prop} {h h' h'' : dh_AH} {c : Int → Int} {n p o x y v f : Int} {a b m bs k : Nat} {W S : List Int} {L M R : List TK} {t : TK} {PJ : List (Int × Nat)}
theorem pt_nil {e : Nat} {sd : Nat → Int} : pt [] e sd = sd := by funext i; unfold pt; rw [if_neg (by simp)]
theorem gQ_gJ (A : gQ a R h h') : gJ a R [] h h' := ⟨A.1, A.2.2, by rw [show js [] = [] from rfl, pt_nil]; exact A.2.1, fun u hu => by simp at hu⟩
/-- the pending jumps land -/
theorem gJ_land (A : gJ a R PJ h h') (F : fr sM h' h'') (e : ∀ i, h''.1 156 i = pt (js PJ) (a + R.length) (h'.1 156) i) : gQ a R h h'' := by
  refine ⟨fr_trans A.1 F, HR_cong (fun i _ _ => e i) A.2.2.1, fun i hi => ?_⟩
  rw [e, ← A.2.1 i hi]
  unfold pt
  rw [if_neg]
  intro z
  obtain ⟨u, u0, u1⟩ := List.mem_map.1 z
  have := A.2.2.2 u u0
  omega
/-- behind a test: & or | -/
theorem H7_join (hn : ∀ p, n ≤ p → c p = -1) (M : MS c n p o a (eJ PJ ++ S) h) (j : c p = 38 ∨ c p = 124) (q1 : ∀ u, u ∈ PJ → qj (if c p = 124 then 1 else 0) u.1 ∧ u.2 < 260 ∧ 0 ≤ h.1 156 u.2 ∧ h.1 156 u.2 < 16777216) (q2 : ¬ qj (if c p = 124 then 1 else 0) (wt S)) (hQ : ∀ h1 h', (∀ i, h1.1 156 i = pt (js PJ) a (h.1 156) i) → fr sM h h1 → MS c n (p + 1) o (a + 1) ((1048576 * (if c p = 38 then 11 else 12) + a) :: S) h' → fr sM h1 h' → (∀ i, h'.1 156 i = if i = a then 1048576 * (if c p = 38 then 11 else 12) else h1.1 156 i) → H2 d Q h') : H7 d Q h := by
  obtain ⟨T, e1, e2, e3, e4, s, w, l1, l2, pn, n1, o0, o6⟩ := id M
  have p0 : 0 ≤ p := by omega
  have lt : p < n := c_lt hn (by omega)
  have YH := fun (d : Nat) (Q : Option dh_V → dh_AH → Prop) => y_here (d := d) (Q := Q) T (show n ≤ 260 by omega) e1 p0
  unfold H7
  rw [u179_7]
  rcases j with j | j
  · rw [if_neg (by omega)] at q1 q2
    rw [if_pos j] at hQ
    ((try simp only [bk179_7, u179_9, bk179_9, u179_10, bk179_10, u179_11, bk179_11, u179_12, bk179_12, YH, j, sh147, wb_ldi, wb_ldl, wb_ldr, wb_iinc, wb_sti, wb_str, wb_stl, wb_ci, wb_cl, wb_i0, wb_i1, wb_i2, wb_i5, wb_i6, wb_i7, wb_i8, wb_i9, wb_i3, wb_i4, wb_l0, wb_l1, wb_l2, wb_l5, wb_l6, wb_l3, wb_l4, wb_s0, wb_s1, wb_s2, wb_i2l, wb_l2i, wb_i2b, wb_lcmp, wb_dupi, wb_dupr, wb_popi, wb_popr, wb_ic0, wb_if0, wb_ic1, wb_if1, wb_ic2, wb_if2, wb_ic3, wb_if3, wb_ic4, wb_if4, wb_ic5, wb_if5, wb_nu0, wb_nu1, wb_nn0, wb_nn1, wb_go, wb_fall, wb_ri, wb_rl, wb_rr, wb_rz, wb_rv, wb_gi, wb_gr, wb_pi, aK_s, aN_s, aZ_s, k18_1, k18_8, k34_3, k34_4, k1_1, k2_2, k128_1, k128_2, k128_8, k567_5, k567_6, k567_7, wb_iald, wb_bald, wb_lald, wb_aald, wb_iast, wb_last, wb_bast, wb_len, wb_null, wb_sw, wb_cs1, wb_cs2, wb_cs3, wb_cs4, wb_cs5, wb_cs6, wb_cs7, wb_cv0, wb_cv1, wb_cv2, wb_cv3, wb_cv4, wb_cv5, wb_cv6, wb_m0, wb_m1, wb_m2, wb_m3, ws_0, ws_i, ws_l, ws_r, kI_s, kL_s, kR_s, lg_0, lg_s, ls_0, ls_s, ik_i, ik_l, ik_r, ik_n, kl_0, kl_s, dh_st1, dh_st2, Option.toList_some, Option.toList_none, List.cons_append, List.nil_append, Bool.false_eq_true, if_false, if_true, true_and, and_true, true_or, or_true, Nat.zero_le, Nat.reduceAdd, Nat.reduceLeDiff, ↓reduceIte, Int.reduceEq, Int.reduceLT, Int.reduceLE, Int.reduceNe, Int.reduceToNat, Int.reduceNeg, Nat.reduceEqDiff, ui_s, ui_2, ul_1, ul_s, wp_ite, sw_c, sw_n, oi_0, oi_1, oi_m1, lc_eq, lc_ne, b01_eq0, b01_ne0, b01_ok, b01_01, z_01, o_01, ne_eq, not_true, not_false_eq_true, imp_self, implies_true, false_implies, and_false, false_and, false_or, or_false, Int.add_zero]); try simp (discharger := omega) only [sh147, ↓if_pos, ↓if_neg, and_iff_right, dh_wr_id, ui_s, ui_p, ui_k, ui_2, ul_1, ul_s, ul_p, ul_k, true_and, and_true, and_false, false_and, if_false, if_true, not_true, not_false_eq_true, imp_self, implies_true, false_implies])
    refine y_lands q1 (Or.inl rfl) q2 M (fun h1 M1 f1 C1 => ?_)
    have YH1 := fun (d : Nat) (Q : Option dh_V → dh_AH → Prop) => y_here (d := d) (Q := Q) M1.1 (show n ≤ 260 by omega) M1.2.1 p0
    ((try simp only [u179_14, bk179_14, YH1, j, sh147, wb_ldi, wb_ldl, wb_ldr, wb_iinc, wb_sti, wb_str, wb_stl, wb_ci, wb_cl, wb_i0, wb_i1, wb_i2, wb_i5, wb_i6, wb_i7, wb_i8, wb_i9, wb_i3, wb_i4, wb_l0, wb_l1, wb_l2, wb_l5, wb_l6, wb_l3, wb_l4, wb_s0, wb_s1, wb_s2, wb_i2l, wb_l2i, wb_i2b, wb_lcmp, wb_dupi, wb_dupr, wb_popi, wb_popr, wb_ic0, wb_if0, wb_ic1, wb_if1, wb_ic2, wb_if2, wb_ic3, wb_if3, wb_ic4, wb_if4, wb_ic5, wb_if5, wb_nu0, wb_nu1, wb_nn0, wb_nn1, wb_go, wb_fall, wb_ri, wb_rl, wb_rr, wb_rz, wb_rv, wb_gi, wb_gr, wb_pi, aK_s, aN_s, aZ_s, k18_1, k18_8, k34_3, k34_4, k1_1, k2_2, k128_1, k128_2, k128_8, k567_5, k567_6, k567_7, wb_iald, wb_bald, wb_lald, wb_aald, wb_iast, wb_last, wb_bast, wb_len, wb_null, wb_sw, wb_cs1, wb_cs2, wb_cs3, wb_cs4, wb_cs5, wb_cs6, wb_cs7, wb_cv0, wb_cv1, wb_cv2, wb_cv3, wb_cv4, wb_cv5, wb_cv6, wb_m0, wb_m1, wb_m2, wb_m3, ws_0, ws_i, ws_l, ws_r, kI_s, kL_s, kR_s, lg_0, lg_s, ls_0, ls_s, ik_i, ik_l, ik_r, ik_n, kl_0, kl_s, dh_st1, dh_st2, Option.toList_some, Option.toList_none, List.cons_append, List.nil_append, Bool.false_eq_true, if_false, if_true, true_and, and_true, true_or, or_true, Nat.zero_le, Nat.reduceAdd, Nat.reduceLeDiff, ↓reduceIte, Int.reduceEq, Int.reduceLT, Int.reduceLE, Int.reduceNe, Int.reduceToNat, Int.reduceNeg, Nat.reduceEqDiff, ui_s, ui_2, ul_1, ul_s, wp_ite, sw_c, sw_n, oi_0, oi_1, oi_m1, lc_eq, lc_ne, b01_eq0, b01_ne0, b01_ok, b01_01, z_01, o_01, ne_eq, not_true, not_false_eq_true, imp_self, implies_true, false_implies, and_false, false_and, false_or, or_false, Int.add_zero]); try simp (discharger := omega) only [sh147, ↓if_pos, ↓if_neg, and_iff_right, dh_wr_id, ui_s, ui_p, ui_k, ui_2, ul_1, ul_s, ul_p, ul_k, true_and, and_true, and_false, false_and, if_false, if_true, not_true, not_false_eq_true, imp_self, implies_true, false_implies])
    refine y_jumps M1 lt (Or.inl rfl) (fun h2 M2 f2 C2 => ?_)
    ((try simp only [wb_ldi, wb_ldl, wb_ldr, wb_iinc, wb_sti, wb_str, wb_stl, wb_ci, wb_cl, wb_i0, wb_i1, wb_i2, wb_i5, wb_i6, wb_i7, wb_i8, wb_i9, wb_i3, wb_i4, wb_l0, wb_l1, wb_l2, wb_l5, wb_l6, wb_l3, wb_l4, wb_s0, wb_s1, wb_s2, wb_i2l, wb_l2i, wb_i2b, wb_lcmp, wb_dupi, wb_dupr, wb_popi, wb_popr, wb_ic0, wb_if0, wb_ic1, wb_if1, wb_ic2, wb_if2, wb_ic3, wb_if3, wb_ic4, wb_if4, wb_ic5, wb_if5, wb_nu0, wb_nu1, wb_nn0, wb_nn1, wb_go, wb_fall, wb_ri, wb_rl, wb_rr, wb_rz, wb_rv, wb_gi, wb_gr, wb_pi, aK_s, aN_s, aZ_s, k18_1, k18_8, k34_3, k34_4, k1_1, k2_2, k128_1, k128_2, k128_8, k567_5, k567_6, k567_7, wb_iald, wb_bald, wb_lald, wb_aald, wb_iast, wb_last, wb_bast, wb_len, wb_null, wb_sw, wb_cs1, wb_cs2, wb_cs3, wb_cs4, wb_cs5, wb_cs6, wb_cs7, wb_cv0, wb_cv1, wb_cv2, wb_cv3, wb_cv4, wb_cv5, wb_cv6, wb_m0, wb_m1, wb_m2, wb_m3, ws_0, ws_i, ws_l, ws_r, kI_s, kL_s, kR_s, lg_0, lg_s, ls_0, ls_s, ik_i, ik_l, ik_r, ik_n, kl_0, kl_s, dh_st1, dh_st2, Option.toList_some, Option.toList_none, List.cons_append, List.nil_append, Bool.false_eq_true, if_false, if_true, true_and, and_true, true_or, or_true, Nat.zero_le, Nat.reduceAdd, Nat.reduceLeDiff, ↓reduceIte, Int.reduceEq, Int.reduceLT, Int.reduceLE, Int.reduceNe, Int.reduceToNat, Int.reduceNeg, Nat.reduceEqDiff, ui_s, ui_2, ul_1, ul_s, wp_ite, sw_c, sw_n, oi_0, oi_1, oi_m1, lc_eq, lc_ne, b01_eq0, b01_ne0, b01_ok, b01_01, z_01, o_01, ne_eq, not_true, not_false_eq_true, imp_self, implies_true, false_implies, and_false, false_and, false_or, or_false, Int.add_zero]); try simp (discharger := omega) only [↓if_pos, ↓if_neg, and_iff_right, dh_wr_id, ui_s, ui_p, ui_k, ui_2, ul_1, ul_s, ul_p, ul_k, true_and, and_true, and_false, false_and, if_false, if_true, not_true, not_false_eq_true, imp_self, implies_true, false_implies])
    exact hQ h1 h2 C1 f1 M2 f2 C2
  · rw [if_pos j] at q1 q2
    rw [if_neg (by omega)] at hQ
    ((try simp only [bk179_7, u179_9, bk179_9, u179_10, bk179_10, u179_12, bk179_12, YH, j, sh147, wb_ldi, wb_ldl, wb_ldr, wb_iinc, wb_sti, wb_str, wb_stl, wb_ci, wb_cl, wb_i0, wb_i1, wb_i2, wb_i5, wb_i6, wb_i7, wb_i8, wb_i9, wb_i3, wb_i4, wb_l0, wb_l1, wb_l2, wb_l5, wb_l6, wb_l3, wb_l4, wb_s0, wb_s1, wb_s2, wb_i2l, wb_l2i, wb_i2b, wb_lcmp, wb_dupi, wb_dupr, wb_popi, wb_popr, wb_ic0, wb_if0, wb_ic1, wb_if1, wb_ic2, wb_if2, wb_ic3, wb_if3, wb_ic4, wb_if4, wb_ic5, wb_if5, wb_nu0, wb_nu1, wb_nn0, wb_nn1, wb_go, wb_fall, wb_ri, wb_rl, wb_rr, wb_rz, wb_rv, wb_gi, wb_gr, wb_pi, aK_s, aN_s, aZ_s, k18_1, k18_8, k34_3, k34_4, k1_1, k2_2, k128_1, k128_2, k128_8, k567_5, k567_6, k567_7, wb_iald, wb_bald, wb_lald, wb_aald, wb_iast, wb_last, wb_bast, wb_len, wb_null, wb_sw, wb_cs1, wb_cs2, wb_cs3, wb_cs4, wb_cs5, wb_cs6, wb_cs7, wb_cv0, wb_cv1, wb_cv2, wb_cv3, wb_cv4, wb_cv5, wb_cv6, wb_m0, wb_m1, wb_m2, wb_m3, ws_0, ws_i, ws_l, ws_r, kI_s, kL_s, kR_s, lg_0, lg_s, ls_0, ls_s, ik_i, ik_l, ik_r, ik_n, kl_0, kl_s, dh_st1, dh_st2, Option.toList_some, Option.toList_none, List.cons_append, List.nil_append, Bool.false_eq_true, if_false, if_true, true_and, and_true, true_or, or_true, Nat.zero_le, Nat.reduceAdd, Nat.reduceLeDiff, ↓reduceIte, Int.reduceEq, Int.reduceLT, Int.reduceLE, Int.reduceNe, Int.reduceToNat, Int.reduceNeg, Nat.reduceEqDiff, ui_s, ui_2, ul_1, ul_s, wp_ite, sw_c, sw_n, oi_0, oi_1, oi_m1, lc_eq, lc_ne, b01_eq0, b01_ne0, b01_ok, b01_01, z_01, o_01, ne_eq, not_true, not_false_eq_true, imp_self, implies_true, false_implies, and_false, false_and, false_or, or_false, Int.add_zero]); try simp (discharger := omega) only [sh147, ↓if_pos, ↓if_neg, and_iff_right, dh_wr_id, ui_s, ui_p, ui_k, ui_2, ul_1, ul_s, ul_p, ul_k, true_and, and_true, and_false, false_and, if_false, if_true, not_true, not_false_eq_true, imp_self, implies_true, false_implies])
    refine y_lands q1 (Or.inr rfl) q2 M (fun h1 M1 f1 C1 => ?_)
    have YH1 := fun (d : Nat) (Q : Option dh_V → dh_AH → Prop) => y_here (d := d) (Q := Q) M1.1 (show n ≤ 260 by omega) M1.2.1 p0
    ((try simp only [u179_13, bk179_13, u179_14, bk179_14, YH1, j, sh147, wb_ldi, wb_ldl, wb_ldr, wb_iinc, wb_sti, wb_str, wb_stl, wb_ci, wb_cl, wb_i0, wb_i1, wb_i2, wb_i5, wb_i6, wb_i7, wb_i8, wb_i9, wb_i3, wb_i4, wb_l0, wb_l1, wb_l2, wb_l5, wb_l6, wb_l3, wb_l4, wb_s0, wb_s1, wb_s2, wb_i2l, wb_l2i, wb_i2b, wb_lcmp, wb_dupi, wb_dupr, wb_popi, wb_popr, wb_ic0, wb_if0, wb_ic1, wb_if1, wb_ic2, wb_if2, wb_ic3, wb_if3, wb_ic4, wb_if4, wb_ic5, wb_if5, wb_nu0, wb_nu1, wb_nn0, wb_nn1, wb_go, wb_fall, wb_ri, wb_rl, wb_rr, wb_rz, wb_rv, wb_gi, wb_gr, wb_pi, aK_s, aN_s, aZ_s, k18_1, k18_8, k34_3, k34_4, k1_1, k2_2, k128_1, k128_2, k128_8, k567_5, k567_6, k567_7, wb_iald, wb_bald, wb_lald, wb_aald, wb_iast, wb_last, wb_bast, wb_len, wb_null, wb_sw, wb_cs1, wb_cs2, wb_cs3, wb_cs4, wb_cs5, wb_cs6, wb_cs7, wb_cv0, wb_cv1, wb_cv2, wb_cv3, wb_cv4, wb_cv5, wb_cv6, wb_m0, wb_m1, wb_m2, wb_m3, ws_0, ws_i, ws_l, ws_r, kI_s, kL_s, kR_s, lg_0, lg_s, ls_0, ls_s, ik_i, ik_l, ik_r, ik_n, kl_0, kl_s, dh_st1, dh_st2, Option.toList_some, Option.toList_none, List.cons_append, List.nil_append, Bool.false_eq_true, if_false, if_true, true_and, and_true, true_or, or_true, Nat.zero_le, Nat.reduceAdd, Nat.reduceLeDiff, ↓reduceIte, Int.reduceEq, Int.reduceLT, Int.reduceLE, Int.reduceNe, Int.reduceToNat, Int.reduceNeg, Nat.reduceEqDiff, ui_s, ui_2, ul_1, ul_s, wp_ite, sw_c, sw_n, oi_0, oi_1, oi_m1, lc_eq, lc_ne, b01_eq0, b01_ne0, b01_ok, b01_01, z_01, o_01, ne_eq, not_true, not_false_eq_true, imp_self, implies_true, false_implies, and_false, false_and, false_or, or_false, Int.add_zero]); try simp (discharger := omega) only [sh147, ↓if_pos, ↓if_neg, and_iff_right, dh_wr_id, ui_s, ui_p, ui_k, ui_2, ul_1, ul_s, ul_p, ul_k, true_and, and_true, and_false, false_and, if_false, if_true, not_true, not_false_eq_true, imp_self, implies_true, false_implies])
    refine y_jumps M1 lt (Or.inr rfl) (fun h2 M2 f2 C2 => ?_)
    ((try simp only [wb_ldi, wb_ldl, wb_ldr, wb_iinc, wb_sti, wb_str, wb_stl, wb_ci, wb_cl, wb_i0, wb_i1, wb_i2, wb_i5, wb_i6, wb_i7, wb_i8, wb_i9, wb_i3, wb_i4, wb_l0, wb_l1, wb_l2, wb_l5, wb_l6, wb_l3, wb_l4, wb_s0, wb_s1, wb_s2, wb_i2l, wb_l2i, wb_i2b, wb_lcmp, wb_dupi, wb_dupr, wb_popi, wb_popr, wb_ic0, wb_if0, wb_ic1, wb_if1, wb_ic2, wb_if2, wb_ic3, wb_if3, wb_ic4, wb_if4, wb_ic5, wb_if5, wb_nu0, wb_nu1, wb_nn0, wb_nn1, wb_go, wb_fall, wb_ri, wb_rl, wb_rr, wb_rz, wb_rv, wb_gi, wb_gr, wb_pi, aK_s, aN_s, aZ_s, k18_1, k18_8, k34_3, k34_4, k1_1, k2_2, k128_1, k128_2, k128_8, k567_5, k567_6, k567_7, wb_iald, wb_bald, wb_lald, wb_aald, wb_iast, wb_last, wb_bast, wb_len, wb_null, wb_sw, wb_cs1, wb_cs2, wb_cs3, wb_cs4, wb_cs5, wb_cs6, wb_cs7, wb_cv0, wb_cv1, wb_cv2, wb_cv3, wb_cv4, wb_cv5, wb_cv6, wb_m0, wb_m1, wb_m2, wb_m3, ws_0, ws_i, ws_l, ws_r, kI_s, kL_s, kR_s, lg_0, lg_s, ls_0, ls_s, ik_i, ik_l, ik_r, ik_n, kl_0, kl_s, dh_st1, dh_st2, Option.toList_some, Option.toList_none, List.cons_append, List.nil_append, Bool.false_eq_true, if_false, if_true, true_and, and_true, true_or, or_true, Nat.zero_le, Nat.reduceAdd, Nat.reduceLeDiff, ↓reduceIte, Int.reduceEq, Int.reduceLT, Int.reduceLE, Int.reduceNe, Int.reduceToNat, Int.reduceNeg, Nat.reduceEqDiff, ui_s, ui_2, ul_1, ul_s, wp_ite, sw_c, sw_n, oi_0, oi_1, oi_m1, lc_eq, lc_ne, b01_eq0, b01_ne0, b01_ok, b01_01, z_01, o_01, ne_eq, not_true, not_false_eq_true, imp_self, implies_true, false_implies, and_false, false_and, false_or, or_false, Int.add_zero]); try simp (discharger := omega) only [↓if_pos, ↓if_neg, and_iff_right, dh_wr_id, ui_s, ui_p, ui_k, ui_2, ul_1, ul_s, ul_p, ul_k, true_and, and_true, and_false, false_and, if_false, if_true, not_true, not_false_eq_true, imp_self, implies_true, false_implies])
    exact hQ h1 h2 C1 f1 M2 f2 C2
/-- behind a test: something else -/
theorem H7_else (M : MS c n p o a W h) (j1 : c p ≠ 38) (j2 : c p ≠ 124) (j3 : c p ≠ 41) (hQ : ∀ h', fr sM h h' → h'.1 147 13 = -1000 - p → Q (some (.inl 0)) h') : H7 d Q h := by
  obtain ⟨T, e1, e2, e3, e4, s, w, l1, l2, pn, n1, o0, o6⟩ := id M
  have p0 : 0 ≤ p := by omega
  have YH := fun (d : Nat) (Q : Option dh_V → dh_AH → Prop) => y_here (d := d) (Q := Q) T (show n ≤ 260 by omega) e1 p0
  unfold H7
  rw [u179_7]
  ((try simp only [bk179_7, u179_9, bk179_9, YH, sh147, j1, j2, j3, e1, wb_ldi, wb_ldl, wb_ldr, wb_iinc, wb_sti, wb_str, wb_stl, wb_ci, wb_cl, wb_i0, wb_i1, wb_i2, wb_i5, wb_i6, wb_i7, wb_i8, wb_i9, wb_i3, wb_i4, wb_l0, wb_l1, wb_l2, wb_l5, wb_l6, wb_l3, wb_l4, wb_s0, wb_s1, wb_s2, wb_i2l, wb_l2i, wb_i2b, wb_lcmp, wb_dupi, wb_dupr, wb_popi, wb_popr, wb_ic0, wb_if0, wb_ic1, wb_if1, wb_ic2, wb_if2, wb_ic3, wb_if3, wb_ic4, wb_if4, wb_ic5, wb_if5, wb_nu0, wb_nu1, wb_nn0, wb_nn1, wb_go, wb_fall, wb_ri, wb_rl, wb_rr, wb_rz, wb_rv, wb_gi, wb_gr, wb_pi, aK_s, aN_s, aZ_s, k18_1, k18_8, k34_3, k34_4, k1_1, k2_2, k128_1, k128_2, k128_8, k567_5, k567_6, k567_7, wb_iald, wb_bald, wb_lald, wb_aald, wb_iast, wb_last, wb_bast, wb_len, wb_null, wb_sw, wb_cs1, wb_cs2, wb_cs3, wb_cs4, wb_cs5, wb_cs6, wb_cs7, wb_cv0, wb_cv1, wb_cv2, wb_cv3, wb_cv4, wb_cv5, wb_cv6, wb_m0, wb_m1, wb_m2, wb_m3, ws_0, ws_i, ws_l, ws_r, kI_s, kL_s, kR_s, lg_0, lg_s, ls_0, ls_s, ik_i, ik_l, ik_r, ik_n, kl_0, kl_s, dh_st1, dh_st2, Option.toList_some, Option.toList_none, List.cons_append, List.nil_append, Bool.false_eq_true, if_false, if_true, true_and, and_true, true_or, or_true, Nat.zero_le, Nat.reduceAdd, Nat.reduceLeDiff, ↓reduceIte, Int.reduceEq, Int.reduceLT, Int.reduceLE, Int.reduceNe, Int.reduceToNat, Int.reduceNeg, Nat.reduceEqDiff, ui_s, ui_2, ul_1, ul_s, wp_ite, sw_c, sw_n, oi_0, oi_1, oi_m1, lc_eq, lc_ne, b01_eq0, b01_ne0, b01_ok, b01_01, z_01, o_01, ne_eq, not_true, not_false_eq_true, imp_self, implies_true, false_implies, and_false, false_and, false_or, or_false, Int.add_zero]); try simp (discharger := omega) only [sh147, j1, j2, j3, e1, ↓if_pos, ↓if_neg, and_iff_right, dh_wr_id, ui_s, ui_p, ui_k, ui_2, ul_1, ul_s, ul_p, ul_k, true_and, and_true, and_false, false_and, if_false, if_true, not_true, not_false_eq_true, imp_self, implies_true, false_implies])
  rw [y_wrong (by omega) (by omega) p0 (by omega)]
  ((try simp only [wb_ldi, wb_ldl, wb_ldr, wb_iinc, wb_sti, wb_str, wb_stl, wb_ci, wb_cl, wb_i0, wb_i1, wb_i2, wb_i5, wb_i6, wb_i7, wb_i8, wb_i9, wb_i3, wb_i4, wb_l0, wb_l1, wb_l2, wb_l5, wb_l6, wb_l3, wb_l4, wb_s0, wb_s1, wb_s2, wb_i2l, wb_l2i, wb_i2b, wb_lcmp, wb_dupi, wb_dupr, wb_popi, wb_popr, wb_ic0, wb_if0, wb_ic1, wb_if1, wb_ic2, wb_if2, wb_ic3, wb_if3, wb_ic4, wb_if4, wb_ic5, wb_if5, wb_nu0, wb_nu1, wb_nn0, wb_nn1, wb_go, wb_fall, wb_ri, wb_rl, wb_rr, wb_rz, wb_rv, wb_gi, wb_gr, wb_pi, aK_s, aN_s, aZ_s, k18_1, k18_8, k34_3, k34_4, k1_1, k2_2, k128_1, k128_2, k128_8, k567_5, k567_6, k567_7, wb_iald, wb_bald, wb_lald, wb_aald, wb_iast, wb_last, wb_bast, wb_len, wb_null, wb_sw, wb_cs1, wb_cs2, wb_cs3, wb_cs4, wb_cs5, wb_cs6, wb_cs7, wb_cv0, wb_cv1, wb_cv2, wb_cv3, wb_cv4, wb_cv5, wb_cv6, wb_m0, wb_m1, wb_m2, wb_m3, ws_0, ws_i, ws_l, ws_r, kI_s, kL_s, kR_s, lg_0, lg_s, ls_0, ls_s, ik_i, ik_l, ik_r, ik_n, kl_0, kl_s, dh_st1, dh_st2, Option.toList_some, Option.toList_none, List.cons_append, List.nil_append, Bool.false_eq_true, if_false, if_true, true_and, and_true, true_or, or_true, Nat.zero_le, Nat.reduceAdd, Nat.reduceLeDiff, ↓reduceIte, Int.reduceEq, Int.reduceLT, Int.reduceLE, Int.reduceNe, Int.reduceToNat, Int.reduceNeg, Nat.reduceEqDiff, ui_s, ui_2, ul_1, ul_s, wp_ite, sw_c, sw_n, oi_0, oi_1, oi_m1, lc_eq, lc_ne, b01_eq0, b01_ne0, b01_ok, b01_01, z_01, o_01, ne_eq, not_true, not_false_eq_true, imp_self, implies_true, false_implies, and_false, false_and, false_or, or_false, Int.add_zero]); try simp (discharger := omega) only [↓if_pos, ↓if_neg, and_iff_right, dh_wr_id, ui_s, ui_p, ui_k, ui_2, ul_1, ul_s, ul_p, ul_k, true_and, and_true, and_false, false_and, if_false, if_true, not_true, not_false_eq_true, imp_self, implies_true, false_implies])
  exact hQ _ (fr_ui (by omega)) (by simp (discharger := omega) only [↓if_pos, ↓if_neg, and_iff_right, dh_wr_id, ui_s, ui_p, ui_k, ui_2, ul_1, ul_s, ul_p, ul_k, true_and, and_true, and_false, false_and, if_false, if_true, not_true, not_false_eq_true, imp_self, implies_true, false_implies]; omega)
/-- a bracket closes -/
theorem H7_close (hn : ∀ p, n ≤ p → c p = -1) (M : MS c n p o a (eJ PJ ++ 1048576 * 13 :: S) h) (j : c p = 41) (o1 : 1 ≤ o) (q1 : ∀ u, u ∈ PJ → qj 1 u.1 ∧ u.2 < 260 ∧ 0 ≤ h.1 156 u.2 ∧ h.1 156 u.2 < 16777216) (hQ : ∀ h1 h', (∀ i, h1.1 156 i = pt (js PJ) a (h.1 156) i) → fr sM h h1 → MS c n (p + 1) (o - 1) a S h' → fr sM h1 h' → (∀ i, h'.1 156 i = h1.1 156 i) → if S = [] then Q (some (.inl 1)) h' else dh_wp dh_sh (dh_wpM (d + 6)) (dh_bl 179) Q 8 [some (.inr (.inr (some 147)))] [] h') : H7 d Q h := by
  obtain ⟨T, e1, e2, e3, e4, s, w, l1, l2, pn, n1, o0, o6⟩ := id M
  have p0 : 0 ≤ p := by omega
  have lt : p < n := c_lt hn (by omega)
  have YH := fun (d : Nat) (Q : Option dh_V → dh_AH → Prop) => y_here (d := d) (Q := Q) T (show n ≤ 260 by omega) e1 p0
  unfold H7
  rw [u179_7]
  ((try simp only [bk179_7, YH, j, sh147, wb_ldi, wb_ldl, wb_ldr, wb_iinc, wb_sti, wb_str, wb_stl, wb_ci, wb_cl, wb_i0, wb_i1, wb_i2, wb_i5, wb_i6, wb_i7, wb_i8, wb_i9, wb_i3, wb_i4, wb_l0, wb_l1, wb_l2, wb_l5, wb_l6, wb_l3, wb_l4, wb_s0, wb_s1, wb_s2, wb_i2l, wb_l2i, wb_i2b, wb_lcmp, wb_dupi, wb_dupr, wb_popi, wb_popr, wb_ic0, wb_if0, wb_ic1, wb_if1, wb_ic2, wb_if2, wb_ic3, wb_if3, wb_ic4, wb_if4, wb_ic5, wb_if5, wb_nu0, wb_nu1, wb_nn0, wb_nn1, wb_go, wb_fall, wb_ri, wb_rl, wb_rr, wb_rz, wb_rv, wb_gi, wb_gr, wb_pi, aK_s, aN_s, aZ_s, k18_1, k18_8, k34_3, k34_4, k1_1, k2_2, k128_1, k128_2, k128_8, k567_5, k567_6, k567_7, wb_iald, wb_bald, wb_lald, wb_aald, wb_iast, wb_last, wb_bast, wb_len, wb_null, wb_sw, wb_cs1, wb_cs2, wb_cs3, wb_cs4, wb_cs5, wb_cs6, wb_cs7, wb_cv0, wb_cv1, wb_cv2, wb_cv3, wb_cv4, wb_cv5, wb_cv6, wb_m0, wb_m1, wb_m2, wb_m3, ws_0, ws_i, ws_l, ws_r, kI_s, kL_s, kR_s, lg_0, lg_s, ls_0, ls_s, ik_i, ik_l, ik_r, ik_n, kl_0, kl_s, dh_st1, dh_st2, Option.toList_some, Option.toList_none, List.cons_append, List.nil_append, Bool.false_eq_true, if_false, if_true, true_and, and_true, true_or, or_true, Nat.zero_le, Nat.reduceAdd, Nat.reduceLeDiff, ↓reduceIte, Int.reduceEq, Int.reduceLT, Int.reduceLE, Int.reduceNe, Int.reduceToNat, Int.reduceNeg, Nat.reduceEqDiff, ui_s, ui_2, ul_1, ul_s, wp_ite, sw_c, sw_n, oi_0, oi_1, oi_m1, lc_eq, lc_ne, b01_eq0, b01_ne0, b01_ok, b01_01, z_01, o_01, ne_eq, not_true, not_false_eq_true, imp_self, implies_true, false_implies, and_false, false_and, false_or, or_false, Int.add_zero]); try simp (discharger := omega) only [sh147, ↓if_pos, ↓if_neg, and_iff_right, dh_wr_id, ui_s, ui_p, ui_k, ui_2, ul_1, ul_s, ul_p, ul_k, true_and, and_true, and_false, false_and, if_false, if_true, not_true, not_false_eq_true, imp_self, implies_true, false_implies])
  refine y_lands q1 (Or.inr rfl) (by rw [show wt (1048576 * 13 :: S) = 13 from rfl]; decide) M (fun h1 M1 f1 C1 => ?_)
  have k : (((1048576 * 13 :: S).length : Nat) : Int) - 1 = (S.length : Int) := by simp only [List.length_cons]; omega
  have l3 := M1.2.2.2.2.2.2.2.2.1
  simp only [List.length_cons] at l3
  ((try simp only [sh147, M1.2.2.2.2.1, M1.2.2.1, M1.2.1, k, wb_ldi, wb_ldl, wb_ldr, wb_iinc, wb_sti, wb_str, wb_stl, wb_ci, wb_cl, wb_i0, wb_i1, wb_i2, wb_i5, wb_i6, wb_i7, wb_i8, wb_i9, wb_i3, wb_i4, wb_l0, wb_l1, wb_l2, wb_l5, wb_l6, wb_l3, wb_l4, wb_s0, wb_s1, wb_s2, wb_i2l, wb_l2i, wb_i2b, wb_lcmp, wb_dupi, wb_dupr, wb_popi, wb_popr, wb_ic0, wb_if0, wb_ic1, wb_if1, wb_ic2, wb_if2, wb_ic3, wb_if3, wb_ic4, wb_if4, wb_ic5, wb_if5, wb_nu0, wb_nu1, wb_nn0, wb_nn1, wb_go, wb_fall, wb_ri, wb_rl, wb_rr, wb_rz, wb_rv, wb_gi, wb_gr, wb_pi, aK_s, aN_s, aZ_s, k18_1, k18_8, k34_3, k34_4, k1_1, k2_2, k128_1, k128_2, k128_8, k567_5, k567_6, k567_7, wb_iald, wb_bald, wb_lald, wb_aald, wb_iast, wb_last, wb_bast, wb_len, wb_null, wb_sw, wb_cs1, wb_cs2, wb_cs3, wb_cs4, wb_cs5, wb_cs6, wb_cs7, wb_cv0, wb_cv1, wb_cv2, wb_cv3, wb_cv4, wb_cv5, wb_cv6, wb_m0, wb_m1, wb_m2, wb_m3, ws_0, ws_i, ws_l, ws_r, kI_s, kL_s, kR_s, lg_0, lg_s, ls_0, ls_s, ik_i, ik_l, ik_r, ik_n, kl_0, kl_s, dh_st1, dh_st2, Option.toList_some, Option.toList_none, List.cons_append, List.nil_append, Bool.false_eq_true, if_false, if_true, true_and, and_true, true_or, or_true, Nat.zero_le, Nat.reduceAdd, Nat.reduceLeDiff, ↓reduceIte, Int.reduceEq, Int.reduceLT, Int.reduceLE, Int.reduceNe, Int.reduceToNat, Int.reduceNeg, Nat.reduceEqDiff, ui_s, ui_2, ul_1, ul_s, wp_ite, sw_c, sw_n, oi_0, oi_1, oi_m1, lc_eq, lc_ne, b01_eq0, b01_ne0, b01_ok, b01_01, z_01, o_01, ne_eq, not_true, not_false_eq_true, imp_self, implies_true, false_implies, and_false, false_and, false_or, or_false, Int.add_zero]); try simp (discharger := omega) only [sh147, M1.2.2.2.2.1, M1.2.2.1, M1.2.1, k, ↓if_pos, ↓if_neg, and_iff_right, dh_wr_id, ui_s, ui_p, ui_k, ui_2, ul_1, ul_s, ul_p, ul_k, true_and, and_true, and_false, false_and, if_false, if_true, not_true, not_false_eq_true, imp_self, implies_true, false_implies])
  have M2 := MS_11 (op_MS (po_MS M1) (x := o - 1) (by omega) (by omega)) (by omega)
  have F2 : fr sM h1 (dh_ui (dh_ui (dh_ui h1 147 17 S.length) 147 15 (o - 1)) 147 11 (p + 1)) := fr_trans (fr_ui (by omega)) (fr_trans (fr_ui (by omega)) (fr_ui (by omega)))
  have C2 : ∀ i, (dh_ui (dh_ui (dh_ui h1 147 17 S.length) 147 15 (o - 1)) 147 11 (p + 1)).1 156 i = h1.1 156 i := fun i => by rw [ui_p (by omega), ui_p (by omega), ui_p (by omega)]
  have X := hQ h1 _ C1 f1 M2 F2 C2
  have E := M2.2.2.2.2.1
  generalize dh_ui (dh_ui (dh_ui h1 147 17 S.length) 147 15 (o - 1)) 147 11 (p + 1) = h2 at *
  cases S with
  | nil =>
    rw [if_pos rfl] at X
    ((try simp only [sh147, E, List.length_nil, wb_ldi, wb_ldl, wb_ldr, wb_iinc, wb_sti, wb_str, wb_stl, wb_ci, wb_cl, wb_i0, wb_i1, wb_i2, wb_i5, wb_i6, wb_i7, wb_i8, wb_i9, wb_i3, wb_i4, wb_l0, wb_l1, wb_l2, wb_l5, wb_l6, wb_l3, wb_l4, wb_s0, wb_s1, wb_s2, wb_i2l, wb_l2i, wb_i2b, wb_lcmp, wb_dupi, wb_dupr, wb_popi, wb_popr, wb_ic0, wb_if0, wb_ic1, wb_if1, wb_ic2, wb_if2, wb_ic3, wb_if3, wb_ic4, wb_if4, wb_ic5, wb_if5, wb_nu0, wb_nu1, wb_nn0, wb_nn1, wb_go, wb_fall, wb_ri, wb_rl, wb_rr, wb_rz, wb_rv, wb_gi, wb_gr, wb_pi, aK_s, aN_s, aZ_s, k18_1, k18_8, k34_3, k34_4, k1_1, k2_2, k128_1, k128_2, k128_8, k567_5, k567_6, k567_7, wb_iald, wb_bald, wb_lald, wb_aald, wb_iast, wb_last, wb_bast, wb_len, wb_null, wb_sw, wb_cs1, wb_cs2, wb_cs3, wb_cs4, wb_cs5, wb_cs6, wb_cs7, wb_cv0, wb_cv1, wb_cv2, wb_cv3, wb_cv4, wb_cv5, wb_cv6, wb_m0, wb_m1, wb_m2, wb_m3, ws_0, ws_i, ws_l, ws_r, kI_s, kL_s, kR_s, lg_0, lg_s, ls_0, ls_s, ik_i, ik_l, ik_r, ik_n, kl_0, kl_s, dh_st1, dh_st2, Option.toList_some, Option.toList_none, List.cons_append, List.nil_append, Bool.false_eq_true, if_false, if_true, true_and, and_true, true_or, or_true, Nat.zero_le, Nat.reduceAdd, Nat.reduceLeDiff, ↓reduceIte, Int.reduceEq, Int.reduceLT, Int.reduceLE, Int.reduceNe, Int.reduceToNat, Int.reduceNeg, Nat.reduceEqDiff, ui_s, ui_2, ul_1, ul_s, wp_ite, sw_c, sw_n, oi_0, oi_1, oi_m1, lc_eq, lc_ne, b01_eq0, b01_ne0, b01_ok, b01_01, z_01, o_01, ne_eq, not_true, not_false_eq_true, imp_self, implies_true, false_implies, and_false, false_and, false_or, or_false, Int.add_zero]); try simp (discharger := omega) only [sh147, E, List.length_nil, ↓if_pos, ↓if_neg, and_iff_right, dh_wr_id, ui_s, ui_p, ui_k, ui_2, ul_1, ul_s, ul_p, ul_k, true_and, and_true, and_false, false_and, if_false, if_true, not_true, not_false_eq_true, imp_self, implies_true, false_implies])
    exact X
  | cons y S =>
    rw [if_neg (by simp)] at X
    have ne : ¬ (((y :: S).length : Nat) : Int) = 0 := by simp only [List.length_cons]; omega
    ((try simp only [sh147, E, ne, wb_ldi, wb_ldl, wb_ldr, wb_iinc, wb_sti, wb_str, wb_stl, wb_ci, wb_cl, wb_i0, wb_i1, wb_i2, wb_i5, wb_i6, wb_i7, wb_i8, wb_i9, wb_i3, wb_i4, wb_l0, wb_l1, wb_l2, wb_l5, wb_l6, wb_l3, wb_l4, wb_s0, wb_s1, wb_s2, wb_i2l, wb_l2i, wb_i2b, wb_lcmp, wb_dupi, wb_dupr, wb_popi, wb_popr, wb_ic0, wb_if0, wb_ic1, wb_if1, wb_ic2, wb_if2, wb_ic3, wb_if3, wb_ic4, wb_if4, wb_ic5, wb_if5, wb_nu0, wb_nu1, wb_nn0, wb_nn1, wb_go, wb_fall, wb_ri, wb_rl, wb_rr, wb_rz, wb_rv, wb_gi, wb_gr, wb_pi, aK_s, aN_s, aZ_s, k18_1, k18_8, k34_3, k34_4, k1_1, k2_2, k128_1, k128_2, k128_8, k567_5, k567_6, k567_7, wb_iald, wb_bald, wb_lald, wb_aald, wb_iast, wb_last, wb_bast, wb_len, wb_null, wb_sw, wb_cs1, wb_cs2, wb_cs3, wb_cs4, wb_cs5, wb_cs6, wb_cs7, wb_cv0, wb_cv1, wb_cv2, wb_cv3, wb_cv4, wb_cv5, wb_cv6, wb_m0, wb_m1, wb_m2, wb_m3, ws_0, ws_i, ws_l, ws_r, kI_s, kL_s, kR_s, lg_0, lg_s, ls_0, ls_s, ik_i, ik_l, ik_r, ik_n, kl_0, kl_s, dh_st1, dh_st2, Option.toList_some, Option.toList_none, List.cons_append, List.nil_append, Bool.false_eq_true, if_false, if_true, true_and, and_true, true_or, or_true, Nat.zero_le, Nat.reduceAdd, Nat.reduceLeDiff, ↓reduceIte, Int.reduceEq, Int.reduceLT, Int.reduceLE, Int.reduceNe, Int.reduceToNat, Int.reduceNeg, Nat.reduceEqDiff, ui_s, ui_2, ul_1, ul_s, wp_ite, sw_c, sw_n, oi_0, oi_1, oi_m1, lc_eq, lc_ne, b01_eq0, b01_ne0, b01_ok, b01_01, z_01, o_01, ne_eq, not_true, not_false_eq_true, imp_self, implies_true, false_implies, and_false, false_and, false_or, or_false, Int.add_zero]); try simp (discharger := omega) only [sh147, E, ne, ↓if_pos, ↓if_neg, and_iff_right, dh_wr_id, ui_s, ui_p, ui_k, ui_2, ul_1, ul_s, ul_p, ul_k, true_and, and_true, and_false, false_and, if_false, if_true, not_true, not_false_eq_true, imp_self, implies_true, false_implies])
    exact X
/-- a list and the jump behind it -/
theorem gJ_add {op : Int} {acc : List TK} {h1 h2 : dh_AH} (op1 : op = 11 ∨ op = 12) (ne : acc ≠ []) (A : gQ a acc h h1) (f : fr sM h1 h') (C : ∀ i, h'.1 156 i = if i = a + acc.length then 1048576 * op else h1.1 156 i) (B : gJ (a + acc.length + 1) R PJ h' h2) (sm : a + acc.length + 1 + R.length ≤ 200) : gJ a (addR op acc R) (PJ ++ [(op, a + acc.length)]) h h2 := by
  have jm : ∀ i, i ∈ js PJ → a + acc.length + 1 ≤ i := fun i hi => by
    obtain ⟨u, u0, u1⟩ := List.mem_map.1 hi
    have := B.2.2.2 u u0
    omega
  have jl : js (PJ ++ [(op, a + acc.length)]) = js PJ ++ [a + acc.length] := List.map_append
  have le : a + (addR op acc R).length = a + acc.length + 1 + R.length := by rw [addR_cons ne]; simp only [List.length_append, List.length_cons]; omega
  have at0 : h2.1 156 (a + acc.length) = 1048576 * op := by rw [B.2.1 _ (by omega), C, if_pos rfl]
  refine ⟨fr_trans A.1 (fr_trans f B.1), fun i hi => ?_, ?_, fun u hu => ?_⟩
  · rw [B.2.1 _ (by omega), C, if_neg (by omega), A.2.2 i hi]
  · rw [le, jl]
    rw [addR_cons ne, HR_app]
    refine ⟨HR_cong (fun i i0 i1 => ?_) A.2.1, ?_, HR_cong (fun i i0 i1 => ?_) B.2.2.1⟩
    · unfold pt
      rw [if_neg (fun z => by rcases List.mem_append.1 z with z | z; have := jm i z; omega; rw [List.mem_singleton] at z; omega), B.2.1 _ (by omega), C, if_neg (by omega)]
    · unfold pt
      rw [if_pos (List.mem_append.2 (Or.inr (List.mem_singleton.2 rfl))), at0]
      unfold rV
      rw [if_pos op1]
      simp only []
      omega
    · unfold pt
      by_cases e : i ∈ js PJ
      · rw [if_pos e, if_pos (List.mem_append.2 (Or.inl e))]
      · rw [if_neg e, if_neg (fun z => by rcases List.mem_append.1 z with z | z; exact e z; rw [List.mem_singleton] at z; omega)]
  · rw [le]
    rcases List.mem_append.1 hu with hu | hu
    · have := B.2.2.2 u hu
      omega
    · rw [List.mem_singleton] at hu
      subst hu
      simp only []
      rw [at0]
      omega
theorem y_B (hn : ∀ p, n ≤ p → c p = -1) {G : Int → CR} (w : wC n G) (ho : YQ d c n o G) : YB d c n o (pB c G) 12 oJ1 := by
  intro p a S h Q M hS hQ1 hQ2
  have EB : pB c G p = zC c 38 11 G 200 p [] := rfl
  -- the state ahead of a part: what was read (acc), and its pending jump
  have Z : ∀ (m : Nat) (p1 : Int) (acc : List TK) (h1 h' : dh_AH), gQ a acc h h1 → fr sM h1 h' → (acc = [] → h' = h1) → (acc ≠ [] → ∀ i, h'.1 156 i = if i = a + acc.length then 1048576 * 11 else h1.1 156 i) → MS c n p1 o (a + if acc = [] then 0 else acc.length + 1) (if acc = [] then S else (1048576 * 11 + ((a + acc.length : Nat) : Int)) :: S) h' → ((zC c 38 11 G m p1 acc).1 = (pB c G p).1 ∧ ((pB c G p).1 = 0 → (zC c 38 11 G m p1 acc).2.1 = (pB c G p).2.1 ∧ (zC c 38 11 G m p1 acc).2.2.2 = (pB c G p).2.2.2)) → 200 ≤ p1 + m → H2 d Q h' := by
    intro m
    induction m with
    | zero =>
      intro p1 acc h1 h' g f ea ej M' hr hm
      have := M'.2.2.2.2.2.2.2.2.2.1; have := M'.2.2.2.2.2.2.2.2.2.2.1; omega
    | succ m ih =>
      intro p1 acc h1 h' g f ea ej M' hr hm
      obtain ⟨T, e1, e2, e3, e4, s, ww, l1, l2, pn, n1, o0, o6⟩ := id M'
      have w1 := w p1 (by omega) pn
      have wS : 11 ≤ wt (if acc = [] then S else (1048576 * 11 + ((a + acc.length : Nat) : Int)) :: S) := by
        by_cases e : acc = []
        · rw [if_pos e]; omega
        · rw [if_neg e]
          show 11 ≤ (1048576 * 11 + ((a + acc.length : Nat) : Int)) / 1048576
          omega
      rw [zC] at hr
      refine ho p1 _ _ 0 h' Q M' wS (by omega) (by omega) (fun z h2 f2 k2 => ?_) (fun z h2 M2 g2 => ?_)
      · rw [if_pos z] at hr
        have e : (pB c G p).1 = (G p1).1 := hr.1.symm
        exact hQ1 (by rw [e]; exact z) h2 (fr_trans g.1 (fr_trans f f2)) (by rw [k2, e])
      · rw [if_neg (by omega)] at hr
        obtain ⟨a1, a2, a3, a4, a5⟩ := w1.1 z
        have g2' : gQ (a + if acc = [] then 0 else acc.length + 1) (G p1).2.2.2 h' h2 := by
          have := g2; rw [show tk0 (nots 0) = [] from rfl, List.append_nil] at this; exact this
        -- together
        have ln : (a + if acc = [] then 0 else acc.length + 1) + (G p1).2.2.2.length = a + (addR 11 acc (G p1).2.2.2).length := by
          rw [addR_len]
          by_cases e : acc = []
          · rw [if_pos e, e]; simp
          · rw [if_neg e, if_neg (fun z => e (List.length_eq_zero_iff.1 z))]; omega
        have A : gJ a (addR 11 acc (G p1).2.2.2) (if acc = [] then [] else [(11, a + acc.length)]) h h2 := by
          by_cases e : acc = []
          · rw [if_pos e]
            rw [if_pos e] at g2'
            have := ea e
            subst e
            subst this
            rw [addR_nil]
            exact gQ_gJ (gQ_cat (L := []) g g2')
          · rw [if_neg e]
            rw [if_neg e] at g2' l1
            exact gJ_add (PJ := []) (Or.inl rfl) e g f (ej e) (gQ_gJ g2') (by omega)
        have M2' : MS c n (G p1).2.1 o (a + (addR 11 acc (G p1).2.2.2).length) (eJ (if acc = [] then [] else [(11, a + acc.length)]) ++ S) h2 := by
          rw [← ln]
          have E : eJ (if acc = [] then [] else [(11, a + acc.length)]) ++ S = if acc = [] then S else (1048576 * 11 + ((a + acc.length : Nat) : Int)) :: S := by
            by_cases e : acc = []
            · rw [if_pos e, if_pos e]; rfl
            · rw [if_neg e, if_neg e]; rfl
          rw [E]
          have := M2
          rw [show o - ((0 : Nat) : Int) = o by omega] at this
          exact this
        have op : ∀ u, u ∈ (if acc = [] then [] else [((11 : Int), a + acc.length)]) → u.1 = 11 := fun u hu => by
          by_cases e : acc = []
          · rw [if_pos e] at hu; simp at hu
          · rw [if_neg e, List.mem_singleton] at hu; rw [hu]
        have l3 := M2'.2.2.2.2.2.2.2.1
        have pn2 := M2'.2.2.2.2.2.2.2.2.2.1
        by_cases q : c (G p1).2.1 = 38
        · rw [if_pos q] at hr
          have ne : addR 11 acc (G p1).2.2.2 ≠ [] := fun e => by
            have := addR_len (op := 11) (a := acc) (R := (G p1).2.2.2)
            rw [e, List.length_nil] at this
            split at this <;> omega
          refine H7_join hn M2' (Or.inl q) (fun u hu => ?_) ?_ (fun h3 h4 C3 f3 M4 f4 C4 => ?_)
          · have z := A.2.2.2 u hu
            exact ⟨Or.inl (op u hu), by omega, z.2.2⟩
          · rw [if_neg (by omega)]
            exact fun e => by rcases e with e | e; omega; exact e.1 rfl
          · rw [if_pos q] at M4 C4
            have G3 := gJ_land A f3 C3
            refine ih ((G p1).2.1 + 1) (addR 11 acc (G p1).2.2.2) h3 h4 G3 f4 (fun e => absurd e ne) (fun _ => C4) ?_ ?_ (by omega)
            · rw [if_neg ne, if_neg ne]; exact M4
            · by_cases y : (zC c 38 11 G m ((G p1).2.1 + 1) (addR 11 acc (G p1).2.2.2)).1 = 0
              · rw [if_neg (by omega)] at hr
                exact ⟨by rw [y]; exact hr.1, hr.2⟩
              · rw [if_pos y] at hr
                exact ⟨hr.1, fun e => by rw [← hr.1] at e; exact absurd e y⟩
        · rw [if_neg q] at hr
          have E0 : (pB c G p).1 = 0 := hr.1.symm
          obtain ⟨E1, E2⟩ := hr.2 E0
          simp only [] at E1 E2
          refine hQ2 E0 h2 (if acc = [] then [] else [(11, a + acc.length)]) ?_ ?_ ?_
          · rw [← E1, ← E2]; exact M2'
          · rw [← E2]; exact A
          · rw [← E1]; exact ⟨q, op⟩
  exact Z 200 p [] h h gQ_refl fr_refl (fun _ => rfl) (fun e => absurd rfl e) (by rw [if_pos rfl, if_pos rfl]; exact M) ⟨rfl, fun _ => ⟨rfl, rfl⟩⟩ (by have := M.2.2.2.2.2.2.2.1; omega)
theorem y_C (hn : ∀ p, n ≤ p → c p = -1) {G : Int → CR} (w : wC n (pB c G)) (ho : YB d c n o (pB c G) 12 oJ1) : YB d c n o (pC c G) 13 oJ0 := by
  intro p a S h Q M hS hQ1 hQ2
  have Z : ∀ (m : Nat) (p1 : Int) (acc : List TK) (h1 h' : dh_AH), gQ a acc h h1 → fr sM h1 h' → (acc = [] → h' = h1) → (acc ≠ [] → ∀ i, h'.1 156 i = if i = a + acc.length then 1048576 * 12 else h1.1 156 i) → MS c n p1 o (a + if acc = [] then 0 else acc.length + 1) (if acc = [] then S else (1048576 * 12 + ((a + acc.length : Nat) : Int)) :: S) h' → ((zC c 124 12 (pB c G) m p1 acc).1 = (pC c G p).1 ∧ ((pC c G p).1 = 0 → (zC c 124 12 (pB c G) m p1 acc).2.1 = (pC c G p).2.1 ∧ (zC c 124 12 (pB c G) m p1 acc).2.2.2 = (pC c G p).2.2.2)) → 200 ≤ p1 + m → H2 d Q h' := by
    intro m
    induction m with
    | zero =>
      intro p1 acc h1 h' g f ea ej M' hr hm
      have := M'.2.2.2.2.2.2.2.2.2.1; have := M'.2.2.2.2.2.2.2.2.2.2.1; omega
    | succ m ih =>
      intro p1 acc h1 h' g f ea ej M' hr hm
      obtain ⟨T, e1, e2, e3, e4, s, ww, l1, l2, pn, n1, o0, o6⟩ := id M'
      have w1 := w p1 (by omega) pn
      have wS : 12 ≤ wt (if acc = [] then S else (1048576 * 12 + ((a + acc.length : Nat) : Int)) :: S) := by
        by_cases e : acc = []
        · rw [if_pos e]; omega
        · rw [if_neg e]
          show 12 ≤ (1048576 * 12 + ((a + acc.length : Nat) : Int)) / 1048576
          omega
      rw [zC] at hr
      refine ho p1 _ _ h' Q M' wS (fun z h2 f2 k2 => ?_) (fun z h2 PJ M2 g2 oj => ?_)
      · rw [if_pos z] at hr
        have e : (pC c G p).1 = (pB c G p1).1 := hr.1.symm
        exact hQ1 (by rw [e]; exact z) h2 (fr_trans g.1 (fr_trans f f2)) (by rw [k2, e])
      · rw [if_neg (by omega)] at hr
        obtain ⟨a1, a2, a3, a4, a5⟩ := w1.1 z
        have ln : (a + if acc = [] then 0 else acc.length + 1) + (pB c G p1).2.2.2.length = a + (addR 12 acc (pB c G p1).2.2.2).length := by
          rw [addR_len]
          by_cases e : acc = []
          · rw [if_pos e, e]; simp
          · rw [if_neg e, if_neg (fun z => e (List.length_eq_zero_iff.1 z))]; omega
        have A : gJ a (addR 12 acc (pB c G p1).2.2.2) (PJ ++ if acc = [] then [] else [(12, a + acc.length)]) h h2 := by
          by_cases e : acc = []
          · rw [if_pos e, List.append_nil]
            rw [if_pos e] at g2
            have := ea e
            subst e
            subst this
            rw [addR_nil]
            refine ⟨fr_trans g.1 g2.1, fun i hi => ?_, g2.2.2.1, g2.2.2.2⟩
            rw [g2.2.1 i (by omega), g.2.2 i hi]
          · rw [if_neg e]
            rw [if_neg e] at g2 l1
            exact gJ_add (Or.inr rfl) e g f (ej e) g2 (by omega)
        have M2' : MS c n (pB c G p1).2.1 o (a + (addR 12 acc (pB c G p1).2.2.2).length) (eJ (PJ ++ if acc = [] then [] else [(12, a + acc.length)]) ++ S) h2 := by
          rw [← ln]
          have E : eJ (PJ ++ if acc = [] then [] else [(12, a + acc.length)]) ++ S = eJ PJ ++ if acc = [] then S else (1048576 * 12 + ((a + acc.length : Nat) : Int)) :: S := by
            rw [show eJ (PJ ++ if acc = [] then [] else [(12, a + acc.length)]) = eJ PJ ++ eJ (if acc = [] then [] else [(12, a + acc.length)]) from List.map_append, List.append_assoc]
            by_cases e : acc = []
            · rw [if_pos e, if_pos e]; rfl
            · rw [if_neg e, if_neg e]; rfl
          rw [E]
          exact M2
        have op : ∀ u, u ∈ (PJ ++ if acc = [] then [] else [((12 : Int), a + acc.length)]) → u.1 = 11 ∨ u.1 = 12 := fun u hu => by
          rcases List.mem_append.1 hu with hu | hu
          · exact Or.inl (oj.2 u hu)
          · by_cases e : acc = []
            · rw [if_pos e] at hu; simp at hu
            · rw [if_neg e, List.mem_singleton] at hu; rw [hu]; exact Or.inr rfl
        have l3 := M2'.2.2.2.2.2.2.2.1
        have pn2 := M2'.2.2.2.2.2.2.2.2.2.1
        by_cases q : c (pB c G p1).2.1 = 124
        · rw [if_pos q] at hr
          have ne : addR 12 acc (pB c G p1).2.2.2 ≠ [] := fun e => by
            have := addR_len (op := 12) (a := acc) (R := (pB c G p1).2.2.2)
            rw [e, List.length_nil] at this
            split at this <;> omega
          refine H7_join hn M2' (Or.inr q) (fun u hu => ?_) ?_ (fun h3 h4 C3 f3 M4 f4 C4 => ?_)
          · have z := A.2.2.2 u hu
            rw [if_pos q]
            exact ⟨(op u hu).elim Or.inl (fun e => Or.inr ⟨by decide, e⟩), by omega, z.2.2⟩
          · exact fun e => by rcases e with e | e <;> omega
          · rw [if_neg (by omega)] at M4 C4
            have G3 := gJ_land A f3 C3
            refine ih ((pB c G p1).2.1 + 1) (addR 12 acc (pB c G p1).2.2.2) h3 h4 G3 f4 (fun e => absurd e ne) (fun _ => C4) ?_ ?_ (by omega)
            · rw [if_neg ne, if_neg ne]; exact M4
            · by_cases y : (zC c 124 12 (pB c G) m ((pB c G p1).2.1 + 1) (addR 12 acc (pB c G p1).2.2.2)).1 = 0
              · rw [if_neg (by omega)] at hr
                exact ⟨by rw [y]; exact hr.1, hr.2⟩
              · rw [if_pos y] at hr
                exact ⟨hr.1, fun e => by rw [← hr.1] at e; exact absurd e y⟩
        · rw [if_neg q] at hr
          have E0 : (pC c G p).1 = 0 := hr.1.symm
          obtain ⟨E1, E2⟩ := hr.2 E0
          simp only [] at E1 E2
          refine hQ2 E0 h2 (PJ ++ if acc = [] then [] else [(12, a + acc.length)]) ?_ ?_ ?_
          · rw [← E1, ← E2]; exact M2'
          · rw [← E2]; exact A
          · rw [← E1]; exact ⟨⟨oj.1, q⟩, op⟩
  exact Z 200 p [] h h gQ_refl fr_refl (fun _ => rfl) (fun e => absurd rfl e) (by rw [if_pos rfl, if_pos rfl]; exact M) ⟨rfl, fun _ => ⟨rfl, rfl⟩⟩ (by have := M.2.2.2.2.2.2.2.1; omega)
end MG
