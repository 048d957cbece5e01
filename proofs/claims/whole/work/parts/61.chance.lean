/-! ===== chance ===== -/
def eu : Nat → Int → Int → Int
  | 0, a, _ => a
  | n + 1, a, b => if b = 0 then a else eu n b (a % b)
/-- Euclid's steps end by then -/
def eb : Nat → Int → Int → Prop
  | 0, _, b => b = 0
  | n + 1, a, b => b = 0 ∨ eb n b (a % b)
theorem emod_half {b r : Int} (r0 : 0 < r) (r1 : r < b) : 2 * (b % r) < b := by
  have q1 : 1 ≤ b / r := Int.le_ediv_of_mul_le r0 (by omega)
  have e := Int.mul_ediv_add_emod b r
  have m := Int.mul_le_mul_of_nonneg_left q1 (show 0 ≤ r by omega)
  have l := Int.emod_lt_of_pos b r0
  omega
theorem eb_pow : ∀ (k : Nat) (a b : Int), 0 ≤ b → b < 2 ^ k → eb (2 * k) a b
  | 0, a, b, b0, b1 => by
    have : b = 0 := by rw [Int.pow_zero] at b1; omega
    exact this
  | k + 1, a, b, b0, b1 => by
    show eb (2 * k + 2) a b
    by_cases z : b = 0
    · exact Or.inl z
    · refine Or.inr ?_
      show eb (2 * k + 1) b (a % b)
      have m0 := Int.emod_nonneg a z
      have m1 := Int.emod_lt_of_pos a (show 0 < b by omega)
      by_cases y : a % b = 0
      · exact Or.inl y
      · refine Or.inr (eb_pow k (a % b) (b % (a % b)) (Int.emod_nonneg _ y) ?_)
        have := emod_half (b := b) (r := a % b) (by omega) m1
        rw [pw2] at b1
        omega
theorem eu_r : ∀ (n : Nat) (a b : Int), 1 ≤ b → eb n a b → 1 ≤ eu n a b ∧ eu n a b ≤ b
  | 0, a, b, b0, e => by have : b = 0 := e; omega
  | n + 1, a, b, b0, e => by
    have e' : b = 0 ∨ eb n b (a % b) := e
    rw [eu, if_neg (by omega)]
    have m0 := Int.emod_nonneg a (show b ≠ 0 by omega)
    have m1 := Int.emod_lt_of_pos a (show 0 < b by omega)
    by_cases y : a % b = 0
    · rw [y]
      cases n with
      | zero => rw [eu]; omega
      | succ n => rw [eu, if_pos rfl]; omega
    · have := eu_r n b (a % b) (by omega) (e'.resolve_left (by omega))
      omega
theorem oi_rem {a b : Int} (a0 : 0 ≤ a) (a1 : a ≤ 1000000000000000) (b0 : 0 ≤ b) (b1 : b ≤ 1000000000000000) : (BitVec.ofInt 64 a).srem (BitVec.ofInt 64 b) = BitVec.ofInt 64 (a % b) := by
  apply BitVec.eq_of_toInt_eq
  have m : 0 ≤ a % b ∧ a % b ≤ a := by
    by_cases z : b = 0
    · rw [z, Int.emod_zero]; omega
    · have := Int.emod_nonneg a z
      have e := Int.mul_ediv_add_emod a b
      have := Int.mul_nonneg b0 (Int.ediv_nonneg a0 b0)
      omega
  rw [BitVec.toInt_srem, toI a0 (by omega), toI b0 (by omega), toI m.1 (by omega), Int.tmod_eq_emod_of_nonneg a0]
theorem oi_div {a b : Int} (a0 : 0 ≤ a) (a1 : a ≤ 1000000000000000) (b0 : 0 ≤ b) (b1 : b ≤ 1000000000000000) : (BitVec.ofInt 64 a).sdiv (BitVec.ofInt 64 b) = BitVec.ofInt 64 (a / b) := by
  apply BitVec.eq_of_toInt_eq
  rw [BitVec.toInt_sdiv, toI a0 (by omega), toI b0 (by omega), BitVec.toInt_ofInt, Int.tdiv_eq_ediv_of_nonneg a0]
theorem oi_z {b : Int} (b0 : 0 ≤ b) (b1 : b ≤ 1000000000000000) : (BitVec.ofInt 64 b = 0#64) = (b = 0) := by
  refine propext ⟨fun e => ?_, fun e => by rw [e]; rfl⟩
  have := congrArg BitVec.toInt e
  rw [toI b0 (by omega)] at this
  exact this
theorem pcn_mono {b c : BitVec 64} (e : ∀ i, b.getLsbD i = true → c.getLsbD i = true) : ∀ {n : Nat} {x : Int}, pcn b x n ≤ pcn c x n
  | 0, x => by simp [pcn]
  | n + 1, x => by
    rw [pcn, pcn]
    have := pcn_mono e (n := n) (x := x + 1)
    by_cases q : b.getLsbD x.toNat = true
    · rw [if_pos q, if_pos (e _ q)]; omega
    · rw [if_neg q]; split <;> omega
section CH2
variable {d : Nat} {Q : Option dh_V → dh_AH → Prop} {h h' : dh_AH} {x l g i pl w a b : Int}
theorem l_cd {u v : BitVec 64} (n : Nat) : ∀ (a b k : Int) (a9 : Option dh_V), (a9 = none ∨ ∃ y, a9 = some (.inr (.inl y))) → 0 ≤ a → a ≤ 1000000000000000 → 0 ≤ b → b ≤ 1000000000000000 → 0 ≤ k → k + n = 100 → dh_wp dh_sh (dh_wpM d) (dh_bl 145) Q 1 [some (.inr (.inl u)), none, some (.inr (.inl v)), none, some (.inr (.inl (BitVec.ofInt 64 a))), none, some (.inr (.inl (BitVec.ofInt 64 b))), none, some (.inl k), a9, none] [] h = Q (some (.inr (.inl (BitVec.ofInt 64 (eu n a b))))) h := by
  induction n with
  | zero =>
    intro a b k a9 h9 a0 a1 b0 b1 k0 hn
    rw [eu, u145_1]
    ((try simp only [bk145_1, u145_2, bk145_2, wb_ldi, wb_ldl, wb_ldr, wb_iinc, wb_sti, wb_str, wb_stl, wb_ci, wb_cl, wb_i0, wb_i1, wb_i2, wb_i5, wb_i6, wb_i7, wb_i8, wb_i9, wb_i3, wb_i4, wb_l0, wb_l1, wb_l2, wb_l5, wb_l6, wb_l3, wb_l4, wb_s0, wb_s1, wb_s2, wb_i2l, wb_l2i, wb_i2b, wb_lcmp, wb_dupi, wb_dupr, wb_popi, wb_popr, wb_ic0, wb_if0, wb_ic1, wb_if1, wb_ic2, wb_if2, wb_ic3, wb_if3, wb_ic4, wb_if4, wb_ic5, wb_if5, wb_nu0, wb_nu1, wb_nn0, wb_nn1, wb_go, wb_fall, wb_ri, wb_rl, wb_rr, wb_rz, wb_rv, wb_gi, wb_gr, wb_pi, aK_s, aN_s, aZ_s, k18_1, k18_8, k34_3, k34_4, k1_1, k2_2, k128_1, k128_2, k128_8, k567_5, k567_6, k567_7, wb_iald, wb_bald, wb_lald, wb_aald, wb_iast, wb_last, wb_bast, wb_len, wb_null, wb_sw, wb_cs1, wb_cs2, wb_cs3, wb_cs4, wb_cs5, wb_cs6, wb_cs7, wb_cv0, wb_cv1, wb_cv2, wb_cv3, wb_cv4, wb_cv5, wb_cv6, wb_m0, wb_m1, wb_m2, wb_m3, ws_0, ws_i, ws_l, ws_r, kI_s, kL_s, kR_s, lg_0, lg_s, ls_0, ls_s, ik_i, ik_l, ik_r, ik_n, kl_0, kl_s, dh_st1, dh_st2, Option.toList_some, Option.toList_none, List.cons_append, List.nil_append, Bool.false_eq_true, if_false, if_true, true_and, and_true, true_or, or_true, Nat.zero_le, Nat.reduceAdd, Nat.reduceLeDiff, ↓reduceIte, Int.reduceEq, Int.reduceLT, Int.reduceLE, Int.reduceNe, Int.reduceToNat, Int.reduceNeg, Nat.reduceEqDiff, ui_s, ui_2, ul_1, ul_s, wp_ite, sw_c, sw_n, oi_0, oi_1, oi_m1, lc_eq, lc_ne, b01_eq0, b01_ne0, b01_ok, b01_01, z_01, o_01, ne_eq, not_true, not_false_eq_true, imp_self, implies_true, false_implies, and_false, false_and, false_or, or_false, Int.add_zero]); try simp (discharger := omega) only [↓if_pos, ↓if_neg, and_iff_right, dh_wr_id, ui_s, ui_p, ui_k, ui_2, ul_1, ul_s, ul_p, ul_k, true_and, and_true, and_false, false_and, if_false, if_true, not_true, not_false_eq_true, imp_self, implies_true, false_implies])
  | succ n ih =>
    intro a b k a9 h9 a0 a1 b0 b1 k0 hn
    rw [eu, u145_1]
    by_cases z : b = 0
    · rw [if_pos z]
      ((try simp only [bk145_1, u145_2, bk145_2, z, wb_ldi, wb_ldl, wb_ldr, wb_iinc, wb_sti, wb_str, wb_stl, wb_ci, wb_cl, wb_i0, wb_i1, wb_i2, wb_i5, wb_i6, wb_i7, wb_i8, wb_i9, wb_i3, wb_i4, wb_l0, wb_l1, wb_l2, wb_l5, wb_l6, wb_l3, wb_l4, wb_s0, wb_s1, wb_s2, wb_i2l, wb_l2i, wb_i2b, wb_lcmp, wb_dupi, wb_dupr, wb_popi, wb_popr, wb_ic0, wb_if0, wb_ic1, wb_if1, wb_ic2, wb_if2, wb_ic3, wb_if3, wb_ic4, wb_if4, wb_ic5, wb_if5, wb_nu0, wb_nu1, wb_nn0, wb_nn1, wb_go, wb_fall, wb_ri, wb_rl, wb_rr, wb_rz, wb_rv, wb_gi, wb_gr, wb_pi, aK_s, aN_s, aZ_s, k18_1, k18_8, k34_3, k34_4, k1_1, k2_2, k128_1, k128_2, k128_8, k567_5, k567_6, k567_7, wb_iald, wb_bald, wb_lald, wb_aald, wb_iast, wb_last, wb_bast, wb_len, wb_null, wb_sw, wb_cs1, wb_cs2, wb_cs3, wb_cs4, wb_cs5, wb_cs6, wb_cs7, wb_cv0, wb_cv1, wb_cv2, wb_cv3, wb_cv4, wb_cv5, wb_cv6, wb_m0, wb_m1, wb_m2, wb_m3, ws_0, ws_i, ws_l, ws_r, kI_s, kL_s, kR_s, lg_0, lg_s, ls_0, ls_s, ik_i, ik_l, ik_r, ik_n, kl_0, kl_s, dh_st1, dh_st2, Option.toList_some, Option.toList_none, List.cons_append, List.nil_append, Bool.false_eq_true, if_false, if_true, true_and, and_true, true_or, or_true, Nat.zero_le, Nat.reduceAdd, Nat.reduceLeDiff, ↓reduceIte, Int.reduceEq, Int.reduceLT, Int.reduceLE, Int.reduceNe, Int.reduceToNat, Int.reduceNeg, Nat.reduceEqDiff, ui_s, ui_2, ul_1, ul_s, wp_ite, sw_c, sw_n, oi_0, oi_1, oi_m1, lc_eq, lc_ne, b01_eq0, b01_ne0, b01_ok, b01_01, z_01, o_01, ne_eq, not_true, not_false_eq_true, imp_self, implies_true, false_implies, and_false, false_and, false_or, or_false, Int.add_zero]); try simp (discharger := omega) only [↓if_pos, ↓if_neg, and_iff_right, dh_wr_id, ui_s, ui_p, ui_k, ui_2, ul_1, ul_s, ul_p, ul_k, true_and, and_true, and_false, false_and, if_false, if_true, not_true, not_false_eq_true, imp_self, implies_true, false_implies])
    · rw [if_neg z]
      have ez := oi_z b0 b1
      have m0 := Int.emod_nonneg a z
      have m1 := Int.emod_lt_of_pos a (show 0 < b by omega)
      have nz : ¬ BitVec.ofInt 64 b = 0#64 := by rw [ez]; exact z
      have nz' : BitVec.ofInt 64 b ≠ 0 := nz
      rw [← ih b (a % b) (k + 1) (some (.inr (.inl (BitVec.ofInt 64 (a % b))))) (Or.inr ⟨_, rfl⟩) b0 b1 m0 (by omega) (by omega) (by omega)]
      rcases h9 with rfl | ⟨y, rfl⟩
      · ((try simp only [bk145_1, ez, z, nz, nz', oi_rem a0 a1 b0 b1, wb_ldi, wb_ldl, wb_ldr, wb_iinc, wb_sti, wb_str, wb_stl, wb_ci, wb_cl, wb_i0, wb_i1, wb_i2, wb_i5, wb_i6, wb_i7, wb_i8, wb_i9, wb_i3, wb_i4, wb_l0, wb_l1, wb_l2, wb_l5, wb_l6, wb_l3, wb_l4, wb_s0, wb_s1, wb_s2, wb_i2l, wb_l2i, wb_i2b, wb_lcmp, wb_dupi, wb_dupr, wb_popi, wb_popr, wb_ic0, wb_if0, wb_ic1, wb_if1, wb_ic2, wb_if2, wb_ic3, wb_if3, wb_ic4, wb_if4, wb_ic5, wb_if5, wb_nu0, wb_nu1, wb_nn0, wb_nn1, wb_go, wb_fall, wb_ri, wb_rl, wb_rr, wb_rz, wb_rv, wb_gi, wb_gr, wb_pi, aK_s, aN_s, aZ_s, k18_1, k18_8, k34_3, k34_4, k1_1, k2_2, k128_1, k128_2, k128_8, k567_5, k567_6, k567_7, wb_iald, wb_bald, wb_lald, wb_aald, wb_iast, wb_last, wb_bast, wb_len, wb_null, wb_sw, wb_cs1, wb_cs2, wb_cs3, wb_cs4, wb_cs5, wb_cs6, wb_cs7, wb_cv0, wb_cv1, wb_cv2, wb_cv3, wb_cv4, wb_cv5, wb_cv6, wb_m0, wb_m1, wb_m2, wb_m3, ws_0, ws_i, ws_l, ws_r, kI_s, kL_s, kR_s, lg_0, lg_s, ls_0, ls_s, ik_i, ik_l, ik_r, ik_n, kl_0, kl_s, dh_st1, dh_st2, Option.toList_some, Option.toList_none, List.cons_append, List.nil_append, Bool.false_eq_true, if_false, if_true, true_and, and_true, true_or, or_true, Nat.zero_le, Nat.reduceAdd, Nat.reduceLeDiff, ↓reduceIte, Int.reduceEq, Int.reduceLT, Int.reduceLE, Int.reduceNe, Int.reduceToNat, Int.reduceNeg, Nat.reduceEqDiff, ui_s, ui_2, ul_1, ul_s, wp_ite, sw_c, sw_n, oi_0, oi_1, oi_m1, lc_eq, lc_ne, b01_eq0, b01_ne0, b01_ok, b01_01, z_01, o_01, ne_eq, not_true, not_false_eq_true, imp_self, implies_true, false_implies, and_false, false_and, false_or, or_false, Int.add_zero]); try simp (discharger := omega) only [↓if_pos, ↓if_neg, and_iff_right, dh_wr_id, ui_s, ui_p, ui_k, ui_2, ul_1, ul_s, ul_p, ul_k, true_and, and_true, and_false, false_and, if_false, if_true, not_true, not_false_eq_true, imp_self, implies_true, false_implies])
      · ((try simp only [bk145_1, ez, z, nz, nz', oi_rem a0 a1 b0 b1, wb_ldi, wb_ldl, wb_ldr, wb_iinc, wb_sti, wb_str, wb_stl, wb_ci, wb_cl, wb_i0, wb_i1, wb_i2, wb_i5, wb_i6, wb_i7, wb_i8, wb_i9, wb_i3, wb_i4, wb_l0, wb_l1, wb_l2, wb_l5, wb_l6, wb_l3, wb_l4, wb_s0, wb_s1, wb_s2, wb_i2l, wb_l2i, wb_i2b, wb_lcmp, wb_dupi, wb_dupr, wb_popi, wb_popr, wb_ic0, wb_if0, wb_ic1, wb_if1, wb_ic2, wb_if2, wb_ic3, wb_if3, wb_ic4, wb_if4, wb_ic5, wb_if5, wb_nu0, wb_nu1, wb_nn0, wb_nn1, wb_go, wb_fall, wb_ri, wb_rl, wb_rr, wb_rz, wb_rv, wb_gi, wb_gr, wb_pi, aK_s, aN_s, aZ_s, k18_1, k18_8, k34_3, k34_4, k1_1, k2_2, k128_1, k128_2, k128_8, k567_5, k567_6, k567_7, wb_iald, wb_bald, wb_lald, wb_aald, wb_iast, wb_last, wb_bast, wb_len, wb_null, wb_sw, wb_cs1, wb_cs2, wb_cs3, wb_cs4, wb_cs5, wb_cs6, wb_cs7, wb_cv0, wb_cv1, wb_cv2, wb_cv3, wb_cv4, wb_cv5, wb_cv6, wb_m0, wb_m1, wb_m2, wb_m3, ws_0, ws_i, ws_l, ws_r, kI_s, kL_s, kR_s, lg_0, lg_s, ls_0, ls_s, ik_i, ik_l, ik_r, ik_n, kl_0, kl_s, dh_st1, dh_st2, Option.toList_some, Option.toList_none, List.cons_append, List.nil_append, Bool.false_eq_true, if_false, if_true, true_and, and_true, true_or, or_true, Nat.zero_le, Nat.reduceAdd, Nat.reduceLeDiff, ↓reduceIte, Int.reduceEq, Int.reduceLT, Int.reduceLE, Int.reduceNe, Int.reduceToNat, Int.reduceNeg, Nat.reduceEqDiff, ui_s, ui_2, ul_1, ul_s, wp_ite, sw_c, sw_n, oi_0, oi_1, oi_m1, lc_eq, lc_ne, b01_eq0, b01_ne0, b01_ok, b01_01, z_01, o_01, ne_eq, not_true, not_false_eq_true, imp_self, implies_true, false_implies, and_false, false_and, false_or, or_false, Int.add_zero]); try simp (discharger := omega) only [↓if_pos, ↓if_neg, and_iff_right, dh_wr_id, ui_s, ui_p, ui_k, ui_2, ul_1, ul_s, ul_p, ul_k, true_and, and_true, and_false, false_and, if_false, if_true, not_true, not_false_eq_true, imp_self, implies_true, false_implies])
theorem c_cd (a0 : 0 ≤ a) (a1 : a ≤ 1000000000000000) (b0 : 0 ≤ b) (b1 : b ≤ 1000000000000000) : dh_wpM (d + 1) 145 [.inr (.inl (BitVec.ofInt 64 a)), .inr (.inl (BitVec.ofInt 64 b))] h Q = Q (some (.inr (.inl (BitVec.ofInt 64 (eu 100 a b))))) h := by
  rw [m145]
  ((try simp only [u145_0, bk145_0, wb_ldi, wb_ldl, wb_ldr, wb_iinc, wb_sti, wb_str, wb_stl, wb_ci, wb_cl, wb_i0, wb_i1, wb_i2, wb_i5, wb_i6, wb_i7, wb_i8, wb_i9, wb_i3, wb_i4, wb_l0, wb_l1, wb_l2, wb_l5, wb_l6, wb_l3, wb_l4, wb_s0, wb_s1, wb_s2, wb_i2l, wb_l2i, wb_i2b, wb_lcmp, wb_dupi, wb_dupr, wb_popi, wb_popr, wb_ic0, wb_if0, wb_ic1, wb_if1, wb_ic2, wb_if2, wb_ic3, wb_if3, wb_ic4, wb_if4, wb_ic5, wb_if5, wb_nu0, wb_nu1, wb_nn0, wb_nn1, wb_go, wb_fall, wb_ri, wb_rl, wb_rr, wb_rz, wb_rv, wb_gi, wb_gr, wb_pi, aK_s, aN_s, aZ_s, k18_1, k18_8, k34_3, k34_4, k1_1, k2_2, k128_1, k128_2, k128_8, k567_5, k567_6, k567_7, wb_iald, wb_bald, wb_lald, wb_aald, wb_iast, wb_last, wb_bast, wb_len, wb_null, wb_sw, wb_cs1, wb_cs2, wb_cs3, wb_cs4, wb_cs5, wb_cs6, wb_cs7, wb_cv0, wb_cv1, wb_cv2, wb_cv3, wb_cv4, wb_cv5, wb_cv6, wb_m0, wb_m1, wb_m2, wb_m3, ws_0, ws_i, ws_l, ws_r, kI_s, kL_s, kR_s, lg_0, lg_s, ls_0, ls_s, ik_i, ik_l, ik_r, ik_n, kl_0, kl_s, dh_st1, dh_st2, Option.toList_some, Option.toList_none, List.cons_append, List.nil_append, Bool.false_eq_true, if_false, if_true, true_and, and_true, true_or, or_true, Nat.zero_le, Nat.reduceAdd, Nat.reduceLeDiff, ↓reduceIte, Int.reduceEq, Int.reduceLT, Int.reduceLE, Int.reduceNe, Int.reduceToNat, Int.reduceNeg, Nat.reduceEqDiff, ui_s, ui_2, ul_1, ul_s, wp_ite, sw_c, sw_n, oi_0, oi_1, oi_m1, lc_eq, lc_ne, b01_eq0, b01_ne0, b01_ok, b01_01, z_01, o_01, ne_eq, not_true, not_false_eq_true, imp_self, implies_true, false_implies, and_false, false_and, false_or, or_false, Int.add_zero]); try simp (discharger := omega) only [↓if_pos, ↓if_neg, and_iff_right, dh_wr_id, ui_s, ui_p, ui_k, ui_2, ul_1, ul_s, ul_p, ul_k, true_and, and_true, and_false, false_and, if_false, if_true, not_true, not_false_eq_true, imp_self, implies_true, false_implies])
  exact l_cd 100 a b 0 none (Or.inl rfl) a0 a1 b0 b1 (by omega) (by omega)
theorem l_gcd {u v : BitVec 64} (n : Nat) : ∀ (a b : Int) (a8 : Option dh_V), (a8 = none ∨ ∃ y, a8 = some (.inr (.inl y))) → 0 ≤ a → a ≤ 1000000000000000 → 0 ≤ b → b ≤ 1000000000000000 → eb n a b → dh_wp dh_sh (dh_wpM d) (dh_bl 234) Q 1 [some (.inr (.inl u)), none, some (.inr (.inl v)), none, some (.inr (.inl (BitVec.ofInt 64 a))), none, some (.inr (.inl (BitVec.ofInt 64 b))), none, a8, none] [] h = Q (some (.inr (.inl (BitVec.ofInt 64 (eu n a b))))) h := by
  induction n with
  | zero =>
    intro a b a8 h8 a0 a1 b0 b1 e
    have z : b = 0 := e
    rw [eu, u234_1]
    ((try simp only [bk234_1, u234_2, bk234_2, z, wb_ldi, wb_ldl, wb_ldr, wb_iinc, wb_sti, wb_str, wb_stl, wb_ci, wb_cl, wb_i0, wb_i1, wb_i2, wb_i5, wb_i6, wb_i7, wb_i8, wb_i9, wb_i3, wb_i4, wb_l0, wb_l1, wb_l2, wb_l5, wb_l6, wb_l3, wb_l4, wb_s0, wb_s1, wb_s2, wb_i2l, wb_l2i, wb_i2b, wb_lcmp, wb_dupi, wb_dupr, wb_popi, wb_popr, wb_ic0, wb_if0, wb_ic1, wb_if1, wb_ic2, wb_if2, wb_ic3, wb_if3, wb_ic4, wb_if4, wb_ic5, wb_if5, wb_nu0, wb_nu1, wb_nn0, wb_nn1, wb_go, wb_fall, wb_ri, wb_rl, wb_rr, wb_rz, wb_rv, wb_gi, wb_gr, wb_pi, aK_s, aN_s, aZ_s, k18_1, k18_8, k34_3, k34_4, k1_1, k2_2, k128_1, k128_2, k128_8, k567_5, k567_6, k567_7, wb_iald, wb_bald, wb_lald, wb_aald, wb_iast, wb_last, wb_bast, wb_len, wb_null, wb_sw, wb_cs1, wb_cs2, wb_cs3, wb_cs4, wb_cs5, wb_cs6, wb_cs7, wb_cv0, wb_cv1, wb_cv2, wb_cv3, wb_cv4, wb_cv5, wb_cv6, wb_m0, wb_m1, wb_m2, wb_m3, ws_0, ws_i, ws_l, ws_r, kI_s, kL_s, kR_s, lg_0, lg_s, ls_0, ls_s, ik_i, ik_l, ik_r, ik_n, kl_0, kl_s, dh_st1, dh_st2, Option.toList_some, Option.toList_none, List.cons_append, List.nil_append, Bool.false_eq_true, if_false, if_true, true_and, and_true, true_or, or_true, Nat.zero_le, Nat.reduceAdd, Nat.reduceLeDiff, ↓reduceIte, Int.reduceEq, Int.reduceLT, Int.reduceLE, Int.reduceNe, Int.reduceToNat, Int.reduceNeg, Nat.reduceEqDiff, ui_s, ui_2, ul_1, ul_s, wp_ite, sw_c, sw_n, oi_0, oi_1, oi_m1, lc_eq, lc_ne, b01_eq0, b01_ne0, b01_ok, b01_01, z_01, o_01, ne_eq, not_true, not_false_eq_true, imp_self, implies_true, false_implies, and_false, false_and, false_or, or_false, Int.add_zero]); try simp (discharger := omega) only [↓if_pos, ↓if_neg, and_iff_right, dh_wr_id, ui_s, ui_p, ui_k, ui_2, ul_1, ul_s, ul_p, ul_k, true_and, and_true, and_false, false_and, if_false, if_true, not_true, not_false_eq_true, imp_self, implies_true, false_implies])
  | succ n ih =>
    intro a b a8 h8 a0 a1 b0 b1 e
    rw [eu, u234_1]
    by_cases z : b = 0
    · rw [if_pos z]
      ((try simp only [bk234_1, u234_2, bk234_2, z, wb_ldi, wb_ldl, wb_ldr, wb_iinc, wb_sti, wb_str, wb_stl, wb_ci, wb_cl, wb_i0, wb_i1, wb_i2, wb_i5, wb_i6, wb_i7, wb_i8, wb_i9, wb_i3, wb_i4, wb_l0, wb_l1, wb_l2, wb_l5, wb_l6, wb_l3, wb_l4, wb_s0, wb_s1, wb_s2, wb_i2l, wb_l2i, wb_i2b, wb_lcmp, wb_dupi, wb_dupr, wb_popi, wb_popr, wb_ic0, wb_if0, wb_ic1, wb_if1, wb_ic2, wb_if2, wb_ic3, wb_if3, wb_ic4, wb_if4, wb_ic5, wb_if5, wb_nu0, wb_nu1, wb_nn0, wb_nn1, wb_go, wb_fall, wb_ri, wb_rl, wb_rr, wb_rz, wb_rv, wb_gi, wb_gr, wb_pi, aK_s, aN_s, aZ_s, k18_1, k18_8, k34_3, k34_4, k1_1, k2_2, k128_1, k128_2, k128_8, k567_5, k567_6, k567_7, wb_iald, wb_bald, wb_lald, wb_aald, wb_iast, wb_last, wb_bast, wb_len, wb_null, wb_sw, wb_cs1, wb_cs2, wb_cs3, wb_cs4, wb_cs5, wb_cs6, wb_cs7, wb_cv0, wb_cv1, wb_cv2, wb_cv3, wb_cv4, wb_cv5, wb_cv6, wb_m0, wb_m1, wb_m2, wb_m3, ws_0, ws_i, ws_l, ws_r, kI_s, kL_s, kR_s, lg_0, lg_s, ls_0, ls_s, ik_i, ik_l, ik_r, ik_n, kl_0, kl_s, dh_st1, dh_st2, Option.toList_some, Option.toList_none, List.cons_append, List.nil_append, Bool.false_eq_true, if_false, if_true, true_and, and_true, true_or, or_true, Nat.zero_le, Nat.reduceAdd, Nat.reduceLeDiff, ↓reduceIte, Int.reduceEq, Int.reduceLT, Int.reduceLE, Int.reduceNe, Int.reduceToNat, Int.reduceNeg, Nat.reduceEqDiff, ui_s, ui_2, ul_1, ul_s, wp_ite, sw_c, sw_n, oi_0, oi_1, oi_m1, lc_eq, lc_ne, b01_eq0, b01_ne0, b01_ok, b01_01, z_01, o_01, ne_eq, not_true, not_false_eq_true, imp_self, implies_true, false_implies, and_false, false_and, false_or, or_false, Int.add_zero]); try simp (discharger := omega) only [↓if_pos, ↓if_neg, and_iff_right, dh_wr_id, ui_s, ui_p, ui_k, ui_2, ul_1, ul_s, ul_p, ul_k, true_and, and_true, and_false, false_and, if_false, if_true, not_true, not_false_eq_true, imp_self, implies_true, false_implies])
    · rw [if_neg z]
      have e' : b = 0 ∨ eb n b (a % b) := e
      have ez := oi_z b0 b1
      have m0 := Int.emod_nonneg a z
      have m1 := Int.emod_lt_of_pos a (show 0 < b by omega)
      have nz : ¬ BitVec.ofInt 64 b = 0#64 := by rw [ez]; exact z
      have nz' : BitVec.ofInt 64 b ≠ 0 := nz
      rw [← ih b (a % b) (some (.inr (.inl (BitVec.ofInt 64 (a % b))))) (Or.inr ⟨_, rfl⟩) b0 b1 m0 (by omega) (e'.resolve_left z)]
      rcases h8 with rfl | ⟨y, rfl⟩
      · ((try simp only [bk234_1, ez, z, nz, nz', oi_rem a0 a1 b0 b1, wb_ldi, wb_ldl, wb_ldr, wb_iinc, wb_sti, wb_str, wb_stl, wb_ci, wb_cl, wb_i0, wb_i1, wb_i2, wb_i5, wb_i6, wb_i7, wb_i8, wb_i9, wb_i3, wb_i4, wb_l0, wb_l1, wb_l2, wb_l5, wb_l6, wb_l3, wb_l4, wb_s0, wb_s1, wb_s2, wb_i2l, wb_l2i, wb_i2b, wb_lcmp, wb_dupi, wb_dupr, wb_popi, wb_popr, wb_ic0, wb_if0, wb_ic1, wb_if1, wb_ic2, wb_if2, wb_ic3, wb_if3, wb_ic4, wb_if4, wb_ic5, wb_if5, wb_nu0, wb_nu1, wb_nn0, wb_nn1, wb_go, wb_fall, wb_ri, wb_rl, wb_rr, wb_rz, wb_rv, wb_gi, wb_gr, wb_pi, aK_s, aN_s, aZ_s, k18_1, k18_8, k34_3, k34_4, k1_1, k2_2, k128_1, k128_2, k128_8, k567_5, k567_6, k567_7, wb_iald, wb_bald, wb_lald, wb_aald, wb_iast, wb_last, wb_bast, wb_len, wb_null, wb_sw, wb_cs1, wb_cs2, wb_cs3, wb_cs4, wb_cs5, wb_cs6, wb_cs7, wb_cv0, wb_cv1, wb_cv2, wb_cv3, wb_cv4, wb_cv5, wb_cv6, wb_m0, wb_m1, wb_m2, wb_m3, ws_0, ws_i, ws_l, ws_r, kI_s, kL_s, kR_s, lg_0, lg_s, ls_0, ls_s, ik_i, ik_l, ik_r, ik_n, kl_0, kl_s, dh_st1, dh_st2, Option.toList_some, Option.toList_none, List.cons_append, List.nil_append, Bool.false_eq_true, if_false, if_true, true_and, and_true, true_or, or_true, Nat.zero_le, Nat.reduceAdd, Nat.reduceLeDiff, ↓reduceIte, Int.reduceEq, Int.reduceLT, Int.reduceLE, Int.reduceNe, Int.reduceToNat, Int.reduceNeg, Nat.reduceEqDiff, ui_s, ui_2, ul_1, ul_s, wp_ite, sw_c, sw_n, oi_0, oi_1, oi_m1, lc_eq, lc_ne, b01_eq0, b01_ne0, b01_ok, b01_01, z_01, o_01, ne_eq, not_true, not_false_eq_true, imp_self, implies_true, false_implies, and_false, false_and, false_or, or_false, Int.add_zero]); try simp (discharger := omega) only [↓if_pos, ↓if_neg, and_iff_right, dh_wr_id, ui_s, ui_p, ui_k, ui_2, ul_1, ul_s, ul_p, ul_k, true_and, and_true, and_false, false_and, if_false, if_true, not_true, not_false_eq_true, imp_self, implies_true, false_implies])
      · ((try simp only [bk234_1, ez, z, nz, nz', oi_rem a0 a1 b0 b1, wb_ldi, wb_ldl, wb_ldr, wb_iinc, wb_sti, wb_str, wb_stl, wb_ci, wb_cl, wb_i0, wb_i1, wb_i2, wb_i5, wb_i6, wb_i7, wb_i8, wb_i9, wb_i3, wb_i4, wb_l0, wb_l1, wb_l2, wb_l5, wb_l6, wb_l3, wb_l4, wb_s0, wb_s1, wb_s2, wb_i2l, wb_l2i, wb_i2b, wb_lcmp, wb_dupi, wb_dupr, wb_popi, wb_popr, wb_ic0, wb_if0, wb_ic1, wb_if1, wb_ic2, wb_if2, wb_ic3, wb_if3, wb_ic4, wb_if4, wb_ic5, wb_if5, wb_nu0, wb_nu1, wb_nn0, wb_nn1, wb_go, wb_fall, wb_ri, wb_rl, wb_rr, wb_rz, wb_rv, wb_gi, wb_gr, wb_pi, aK_s, aN_s, aZ_s, k18_1, k18_8, k34_3, k34_4, k1_1, k2_2, k128_1, k128_2, k128_8, k567_5, k567_6, k567_7, wb_iald, wb_bald, wb_lald, wb_aald, wb_iast, wb_last, wb_bast, wb_len, wb_null, wb_sw, wb_cs1, wb_cs2, wb_cs3, wb_cs4, wb_cs5, wb_cs6, wb_cs7, wb_cv0, wb_cv1, wb_cv2, wb_cv3, wb_cv4, wb_cv5, wb_cv6, wb_m0, wb_m1, wb_m2, wb_m3, ws_0, ws_i, ws_l, ws_r, kI_s, kL_s, kR_s, lg_0, lg_s, ls_0, ls_s, ik_i, ik_l, ik_r, ik_n, kl_0, kl_s, dh_st1, dh_st2, Option.toList_some, Option.toList_none, List.cons_append, List.nil_append, Bool.false_eq_true, if_false, if_true, true_and, and_true, true_or, or_true, Nat.zero_le, Nat.reduceAdd, Nat.reduceLeDiff, ↓reduceIte, Int.reduceEq, Int.reduceLT, Int.reduceLE, Int.reduceNe, Int.reduceToNat, Int.reduceNeg, Nat.reduceEqDiff, ui_s, ui_2, ul_1, ul_s, wp_ite, sw_c, sw_n, oi_0, oi_1, oi_m1, lc_eq, lc_ne, b01_eq0, b01_ne0, b01_ok, b01_01, z_01, o_01, ne_eq, not_true, not_false_eq_true, imp_self, implies_true, false_implies, and_false, false_and, false_or, or_false, Int.add_zero]); try simp (discharger := omega) only [↓if_pos, ↓if_neg, and_iff_right, dh_wr_id, ui_s, ui_p, ui_k, ui_2, ul_1, ul_s, ul_p, ul_k, true_and, and_true, and_false, false_and, if_false, if_true, not_true, not_false_eq_true, imp_self, implies_true, false_implies])
theorem p50 : (2 : Int) ^ 50 = 1125899906842624 := by decide
theorem y_gcd (a0 : 0 ≤ a) (a1 : a ≤ 1000000000000000) (b0 : 0 ≤ b) (b1 : b ≤ 1000000000000000) : dh_wpM (d + 1) 234 [.inr (.inl (BitVec.ofInt 64 a)), .inr (.inl (BitVec.ofInt 64 b))] h Q = Q (some (.inr (.inl (BitVec.ofInt 64 (eu 100 a b))))) h := by
  rw [m234]
  ((try simp only [u234_0, bk234_0, wb_ldi, wb_ldl, wb_ldr, wb_iinc, wb_sti, wb_str, wb_stl, wb_ci, wb_cl, wb_i0, wb_i1, wb_i2, wb_i5, wb_i6, wb_i7, wb_i8, wb_i9, wb_i3, wb_i4, wb_l0, wb_l1, wb_l2, wb_l5, wb_l6, wb_l3, wb_l4, wb_s0, wb_s1, wb_s2, wb_i2l, wb_l2i, wb_i2b, wb_lcmp, wb_dupi, wb_dupr, wb_popi, wb_popr, wb_ic0, wb_if0, wb_ic1, wb_if1, wb_ic2, wb_if2, wb_ic3, wb_if3, wb_ic4, wb_if4, wb_ic5, wb_if5, wb_nu0, wb_nu1, wb_nn0, wb_nn1, wb_go, wb_fall, wb_ri, wb_rl, wb_rr, wb_rz, wb_rv, wb_gi, wb_gr, wb_pi, aK_s, aN_s, aZ_s, k18_1, k18_8, k34_3, k34_4, k1_1, k2_2, k128_1, k128_2, k128_8, k567_5, k567_6, k567_7, wb_iald, wb_bald, wb_lald, wb_aald, wb_iast, wb_last, wb_bast, wb_len, wb_null, wb_sw, wb_cs1, wb_cs2, wb_cs3, wb_cs4, wb_cs5, wb_cs6, wb_cs7, wb_cv0, wb_cv1, wb_cv2, wb_cv3, wb_cv4, wb_cv5, wb_cv6, wb_m0, wb_m1, wb_m2, wb_m3, ws_0, ws_i, ws_l, ws_r, kI_s, kL_s, kR_s, lg_0, lg_s, ls_0, ls_s, ik_i, ik_l, ik_r, ik_n, kl_0, kl_s, dh_st1, dh_st2, Option.toList_some, Option.toList_none, List.cons_append, List.nil_append, Bool.false_eq_true, if_false, if_true, true_and, and_true, true_or, or_true, Nat.zero_le, Nat.reduceAdd, Nat.reduceLeDiff, ↓reduceIte, Int.reduceEq, Int.reduceLT, Int.reduceLE, Int.reduceNe, Int.reduceToNat, Int.reduceNeg, Nat.reduceEqDiff, ui_s, ui_2, ul_1, ul_s, wp_ite, sw_c, sw_n, oi_0, oi_1, oi_m1, lc_eq, lc_ne, b01_eq0, b01_ne0, b01_ok, b01_01, z_01, o_01, ne_eq, not_true, not_false_eq_true, imp_self, implies_true, false_implies, and_false, false_and, false_or, or_false, Int.add_zero]); try simp (discharger := omega) only [↓if_pos, ↓if_neg, and_iff_right, dh_wr_id, ui_s, ui_p, ui_k, ui_2, ul_1, ul_s, ul_p, ul_k, true_and, and_true, and_false, false_and, if_false, if_true, not_true, not_false_eq_true, imp_self, implies_true, false_implies])
  exact l_gcd 100 a b none (Or.inl rfl) a0 a1 b0 b1 (eb_pow 50 a b b0 (by rw [p50]; omega))
/-- above and below the line behind take i -/
def chD (h : dh_AH) (l g i : Int) (a : Int × Int) : Int := eu 100 (a.1 * pc (gd h l (gH h g i) (gL h g i))) (a.2 * pc (tk h l (gH h g i) (gL h g i)))
def chF (h : dh_AH) (l g i : Int) (a : Int × Int) : Int × Int := if gd h l (gH h g i) (gL h g i) = 0#64 then a else (a.1 * pc (gd h l (gH h g i) (gL h g i)) / chD h l g i a, a.2 * pc (tk h l (gH h g i) (gL h g i)) / chD h l g i a)
abbrev chOK (a : Int × Int) : Prop := (0 ≤ a.1 ∧ a.1 ≤ a.2) ∧ 1 ≤ a.2 ∧ a.2 ≤ 1000000000000
def chA (h : dh_AH) (l g : Int) : Nat → Int × Int → Int → Option (Int × Int)
  | 0, a, _ => some a
  | n + 1, a, i => if gN h g ≤ i then some a else if 1000000000000 < (chF h l g i a).2 then none else chA h l g n (chF h l g i a) (i + 2)
def chV (o : Option (Int × Int)) (w : Int) : BitVec 64 := match o with
  | none => 18446744073709551614#64
  | some a => if w = 0 then BitVec.ofInt 64 a.1 else BitVec.ofInt 64 a.2
theorem ch_nums (lb : lwB (tk h l) (gd h l)) (os : okS (gH h g i) (gL h g i)) {a : Int × Int} (o : chOK a) (gz : gd h l (gH h g i) (gL h g i) ≠ 0#64) : (0 ≤ a.1 * pc (gd h l (gH h g i) (gL h g i)) ∧ a.1 * pc (gd h l (gH h g i) (gL h g i)) ≤ a.2 * pc (tk h l (gH h g i) (gL h g i))) ∧ (1 ≤ a.2 * pc (tk h l (gH h g i) (gL h g i)) ∧ a.2 * pc (tk h l (gH h g i) (gL h g i)) ≤ 41000000000000) ∧ 1 ≤ chD h l g i a ∧ chD h l g i a ≤ a.2 * pc (tk h l (gH h g i) (gL h g i)) := by
  have bb := lb _ _ os
  have g1 := pc_pos bb.2.1 os.1.2 gz
  have gt : pc (gd h l (gH h g i) (gL h g i)) ≤ pc (tk h l (gH h g i) (gL h g i)) := pcn_mono bb.2.2
  have tr := pc_r (tk h l (gH h g i) (gL h g i))
  unfold chD
  generalize pc (gd h l (gH h g i) (gL h g i)) = p at g1 gt ⊢
  generalize pc (tk h l (gH h g i) (gL h g i)) = t at gt tr ⊢
  have x1 : 0 ≤ a.1 * p := Int.mul_nonneg o.1.1 (by omega)
  have x2 : a.1 * p ≤ a.2 * t := Int.mul_le_mul o.1.2 gt (by omega) (by omega)
  have x3 : a.2 * t ≤ 1000000000000 * 41 := Int.mul_le_mul o.2.2 tr.2 (by omega) (by omega)
  have x4 : 1 * 1 ≤ a.2 * t := Int.mul_le_mul o.2.1 (by omega) (by omega) (by omega)
  have e := eu_r 100 (a.1 * p) (a.2 * t) (by omega) (eb_pow 50 _ _ (by omega) (by rw [p50]; omega))
  exact ⟨⟨x1, x2⟩, ⟨by omega, by omega⟩, e⟩
theorem chF_ok (lb : lwB (tk h l) (gd h l)) (os : okS (gH h g i) (gL h g i)) {a : Int × Int} (o : chOK a) : ((0 ≤ (chF h l g i a).1 ∧ (chF h l g i a).1 ≤ (chF h l g i a).2) ∧ 1 ≤ (chF h l g i a).2) ∧ (chF h l g i a).2 ≤ 41000000000000 := by
  unfold chF
  by_cases z : gd h l (gH h g i) (gL h g i) = 0#64
  · rw [if_pos z]; omega
  · rw [if_neg z]
    have n := ch_nums lb os o z
    dsimp only
    generalize a.1 * pc (gd h l (gH h g i) (gL h g i)) = p at n ⊢
    generalize a.2 * pc (tk h l (gH h g i) (gL h g i)) = t at n ⊢
    generalize chD h l g i a = D at n ⊢
    have y1 := Int.ediv_nonneg n.1.1 (show 0 ≤ D by omega)
    have y2 := Int.ediv_le_ediv (c := D) (by omega) n.1.2
    have y3 := Int.ediv_le_self (a := t) D (by omega)
    have y4 : 1 ≤ t / D := Int.le_ediv_of_mul_le (by omega) (by omega)
    omega
end CH2
