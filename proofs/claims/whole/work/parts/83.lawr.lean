/-! ===== law: the rules, read purely; the class's reader ===== -/
/-- letter, amount, condition (the class's code, the reference's) -/
abbrev RU : Type := Int × List TK × List TK × List TK
def sq (f g : Int) : Int := if f ≠ 0 then f else g
def xf (c : Int → Int) (p x : Int) : Int := if c p = x then 0 else -1000 - p
def pR0 (c : Int → Int) (q : Nat) (p : Int) : Int := if c p = 109 ∨ c p = 102 then (if 8 ≤ q then -4000 - p else 0) else -1000 - p
def pRe (c : Int → Int) (p : Int) : ER := if c p = 109 then pX c 7 (p + 1) else (0, p + 1, [])
def pRc (c : Int → Int) (p : Int) : CR := pC c (pQ c 6) ((pRe c p).2.1 + 1)
def pR1 (c : Int → Int) (q : Nat) (p : Int) : Int := sq (pR0 c q p) (pRe c p).1
def pR2 (c : Int → Int) (q : Nat) (p : Int) : Int := sq (pR1 c q p) (xf c (pRe c p).2.1 40)
def pR3 (c : Int → Int) (q : Nat) (p : Int) : Int := sq (pR2 c q p) (pRc c p).1
def pR4 (c : Int → Int) (q : Nat) (p : Int) : Int := sq (pR3 c q p) (xf c (pRc c p).2.1 41)
def pRu (c : Int → Int) (p : Int) : RU := (c p, (pRe c p).2.2, (pRc c p).2.2.1, (pRc c p).2.2.2)
def pRp (c : Int → Int) (p : Int) : Int := (pRc c p).2.1 + 1
def pRs (c : Int → Int) (n : Int) : Nat → Nat → Int → Int × List RU
  | 0, _, _ => (-1, [])
  | m + 1, q, p => if pR4 c q p ≠ 0 then (pR4 c q p, []) else if n ≤ pRp c p then (0, [pRu c p]) else if c (pRp c p) = 59 then (if (pRs c n m (q + 1) (pRp c p + 1)).1 ≠ 0 then ((pRs c n m (q + 1) (pRp c p + 1)).1, []) else (0, pRu c p :: (pRs c n m (q + 1) (pRp c p + 1)).2)) else (-1000 - pRp c p, [])
/-- the class's code of an amount -/
def eL (u : RU) : List TK := if u.1 = 109 then u.2.1 ++ [(13, 0)] else []
def CRu (A : Nat → Nat → Int) (r : Nat) : Nat → Nat → List RU → Prop
  | q, a, [] => A r 6 = q ∧ A r 2 = a
  | q, a, u :: us => A (r + 3) q = u.1 ∧ A (r + 4) q = a ∧ A (r + 5) q = ((a + (eL u).length : Nat) : Int) ∧ HC (A (r + 1)) (A (r + 2)) a (eL u ++ u.2.2.1 ++ [(13, 0)]) ∧ CRu A r (q + 1) (a + (eL u ++ u.2.2.1 ++ [(13, 0)]).length) us
theorem sq_0 {f g : Int} : sq f g = 0 ↔ f = 0 ∧ g = 0 := by
  unfold sq
  by_cases q : f = 0
  · rw [if_neg (by omega)]; exact ⟨fun z => ⟨q, z⟩, fun z => z.2⟩
  · rw [if_pos q]; exact ⟨fun z => absurd z q, fun z => absurd z.1 q⟩
theorem sq_n {f g : Int} (q : f ≠ 0) : sq f g = f := if_pos q
theorem sq_z {g : Int} : sq 0 g = g := if_neg (by decide)
theorem xf_0 {c : Int → Int} {p x : Int} (p0 : 0 ≤ p) : xf c p x = 0 ↔ c p = x := by
  unfold xf
  by_cases q : c p = x
  · rw [if_pos q]; exact ⟨fun _ => q, fun _ => rfl⟩
  · rw [if_neg q]; exact ⟨fun z => by omega, fun z => absurd z q⟩
section LZ
variable {d : Nat} {Q : Option dh_V → dh_AH → Prop} {h h' h1 : dh_AH} {c : Int → Int} {n p p' x v f o j : Int} {s k q : Nat} {L M : List TK} {t : TK}
theorem wE_pRe (hn : ∀ p, n ≤ p → c p = -1) (p0 : 0 ≤ p) (pn : p < n) (z : (pRe c p).1 = 0) : p < (pRe c p).2.1 ∧ (pRe c p).2.1 ≤ n ∧ ((pRe c p).2.2.length : Int) ≤ (pRe c p).2.1 - (p + 1) := by
  unfold pRe at z ⊢
  by_cases y : c p = 109
  · rw [if_pos y] at z ⊢
    have := (wE_pX hn 7 (p + 1) (by omega) (by omega)).1 z
    omega
  · rw [if_neg y] at z ⊢
    simp only [List.length_nil]
    omega
/-- what the parts of a good rule are -/
theorem wR (hn : ∀ p, n ≤ p → c p = -1) (p0 : 0 ≤ p) (pn : p ≤ n) (z : pR4 c q p = 0) : p < n ∧ (c p = 109 ∨ c p = 102) ∧ q < 8 ∧ (pRe c p).1 = 0 ∧ (p < (pRe c p).2.1 ∧ (pRe c p).2.1 < n ∧ ((pRe c p).2.2.length : Int) ≤ (pRe c p).2.1 - (p + 1)) ∧ c (pRe c p).2.1 = 40 ∧ (pRc c p).1 = 0 ∧ ((pRe c p).2.1 + 1 < (pRc c p).2.1 ∧ (pRc c p).2.1 < n ∧ ((pRc c p).2.2.1.length : Int) ≤ (pRc c p).2.1 - ((pRe c p).2.1 + 1) ∧ (pRc c p).2.2.2.length = (pRc c p).2.2.1.length) ∧ c (pRc c p).2.1 = 41 := by
  unfold pR4 at z
  obtain ⟨z3, z4⟩ := sq_0.1 z
  unfold pR3 at z3
  obtain ⟨z2, zc⟩ := sq_0.1 z3
  unfold pR2 at z2
  obtain ⟨z1, zx⟩ := sq_0.1 z2
  unfold pR1 at z1
  obtain ⟨z0, ze⟩ := sq_0.1 z1
  unfold pR0 at z0
  by_cases y : c p = 109 ∨ c p = 102
  · rw [if_pos y] at z0
    have y8 : q < 8 := by
      refine Decidable.byContradiction (fun b => ?_)
      rw [if_pos (by omega)] at z0; omega
    have l1 := c_lt hn (p := p) (by omega)
    have we := wE_pRe hn p0 l1 ze
    have x1 := (xf_0 (by omega)).1 zx
    have l2 := c_lt hn (p := (pRe c p).2.1) (by omega)
    have wc := (wC_pC hn (wC_pQ hn 6) ((pRe c p).2.1 + 1) (by omega) (by omega)).1 zc
    rw [← pRc] at wc
    have x2 := (xf_0 (by omega)).1 z4
    have l3 := c_lt hn (p := (pRc c p).2.1) (by omega)
    exact ⟨l1, y, y8, ze, ⟨we.1, l2, we.2.2⟩, x1, zc, ⟨wc.1, l3, wc.2.2.1, wc.2.2.2.1⟩, x2⟩
  · rw [if_neg y] at z0; omega
theorem pR_neg (hn : ∀ p, n ≤ p → c p = -1) (p0 : 0 ≤ p) (pn : p ≤ n) : pR4 c q p ≤ 0 := by
  have S : ∀ f g : Int, f ≤ 0 → (f = 0 → g ≤ 0) → sq f g ≤ 0 := fun f g a b => by
    by_cases y : f = 0
    · rw [y, sq_z]; exact b y
    · rw [sq_n y]; exact a
  have X : ∀ p x : Int, 0 ≤ p → xf c p x ≤ 0 := fun p x p0 => by unfold xf; split <;> omega
  have a0 : pR0 c q p ≤ 0 := by unfold pR0; split; split; omega; omega; omega
  have lt : pR0 c q p = 0 → p < n := fun z => by
    refine c_lt hn ?_
    unfold pR0 at z
    by_cases y : c p = 109 ∨ c p = 102
    · omega
    · rw [if_neg y] at z; omega
  have ae : pR0 c q p = 0 → (pRe c p).1 ≤ 0 := fun z => by
    have := lt z
    unfold pRe; split
    · exact (wE_pX hn 7 (p + 1) (by omega) (by omega)).2
    · simp
  have a1 : pR1 c q p ≤ 0 := S _ _ a0 ae
  have we : pR1 c q p = 0 → p < (pRe c p).2.1 ∧ (pRe c p).2.1 ≤ n := fun z => by
    have := sq_0.1 z
    have := wE_pRe hn p0 (lt this.1) this.2
    omega
  have a2 : pR2 c q p ≤ 0 := S _ _ a1 (fun z => X _ _ (by have := we z; omega))
  have l2 : pR2 c q p = 0 → (pRe c p).2.1 + 1 ≤ n ∧ 0 ≤ (pRe c p).2.1 := fun z => by
    have y := sq_0.1 z
    have w := we y.1
    have e := (xf_0 (by omega)).1 y.2
    have := c_lt hn (p := (pRe c p).2.1) (by omega)
    omega
  have a3 : pR3 c q p ≤ 0 := S _ _ a2 (fun z => (wC_pC hn (wC_pQ hn 6) ((pRe c p).2.1 + 1) (by have := l2 z; omega) (l2 z).1).2)
  refine S _ _ a3 (fun z => X _ _ ?_)
  have y := sq_0.1 z
  have w := l2 y.1
  have := (wC_pC hn (wC_pQ hn 6) ((pRe c p).2.1 + 1) (by omega) w.1).1 y.2
  rw [← pRc] at this
  omega
/-! the class's calls, a fault found or not -/
theorem e_expect (T : Lc c n h) (n1 : n ≤ 160) (O : oE s f p L h h1) (b : f = 0 → 0 ≤ p ∧ p ≤ 900) (hQ : ∀ h2, oE s (sq f (xf c p x)) (p + 1) L h h2 → Q none h2) : dh_wpM (d + 2) 17 [.inr (.inr (some 5)), .inl x] h1 Q := by
  by_cases z : f = 0
  · subst z
    obtain ⟨p0, p1⟩ := b rfl
    have R := oE_RS T O
    rw [sq_z] at hQ
    rw [c_expectS R n1 p0 p1]
    unfold xf at hQ
    by_cases y : c p = x
    · rw [if_pos y] at hQ ⊢
      exact hQ _ (gP_oE (gP_5 (Or.inl rfl) (oE_gP O)) (RS_3 R))
    · rw [if_neg y] at hQ ⊢
      have g := RS_fail R (f := -1000 - p) (by omega) (w := p + 1) (Or.inr rfl)
      exact hQ _ (oE_f (fr_trans O.1 g.1) g.2.1 g.2.2 (by omega))
  · rw [sq_n z] at hQ
    refine c_expect0 (by rw [O.2.2.1]; exact z) (fun w => ?_)
    exact hQ _ (oE_f (fr_trans O.1 (fr_ui (by omega))) (RB_5 O.2.1) (by simp (discharger := omega) only [O.2.2.1, ↓if_pos, ↓if_neg, and_iff_right, dh_wr_id, ui_s, ui_p, ui_k, ui_2, ul_1, ul_s, ul_p, ul_k, true_and, and_true, and_false, false_and, if_false, if_true, not_true, not_false_eq_true, imp_self, implies_true, false_implies]) z)
theorem e_step (T : Lc c n h) (O : oE s f p L h h1) (b : f = 0 → s + L.length < 160) (ex : x = cS t) (ev : ∀ a, v = cV a t) (v0 : -1 ≤ v) (v1 : v ≤ 100000) (hQ : ∀ h2, oE s f p (L ++ [t]) h h2 → Q none h2) : dh_wpM (d + 1) 47 [.inr (.inr (some 6)), .inl x, .inl v] h1 Q := by
  by_cases z : f = 0
  · subst z
    have R := oE_RS T O
    rw [c_step R.2.2.2.1 (b rfl)]
    refine hQ _ (gP_oE (c := c) (n := n) (gP_cat (oE_gP O) (stp_gP ex (ev _))) ?_)
    rw [List.length_append, ← Nat.add_assoc]
    exact RS_stp R (b rfl) v0 v1
  · refine c_stepF O.2.1 v0 v1 (fun h3 f3 b3 e3 => ?_)
    exact hQ _ (oE_f (fr_trans O.1 f3) b3 (by rw [e3, O.2.2.1]) z)
theorem e_expr {G : Int → ER} (T : Lc c n h) (n0 : 0 ≤ n) (K : KE (d + 1) 13 [.inl o, .inl x] c n G) (O : oE s f p L h h1) (b : f = 0 → ((s + L.length : Nat) : Int) ≤ p ∧ p ≤ n) (hQ : ∀ h2, oE s (sq f (G p).1) (G p).2.1 (L ++ (G p).2.2) h h2 → Q none h2) : dh_wpM (d + 1) 13 [.inr (.inr (some 5)), .inl o, .inl x] h1 Q := by
  by_cases z : f = 0
  · subst z
    rw [sq_z] at hQ
    have R := oE_RS T O
    refine K p _ h1 Q R (b rfl).1 (b rfl).2 (fun h2 o2 => hQ _ ?_)
    refine ⟨fr_trans O.1 o2.1, o2.2.1, o2.2.2.1, fun y => ?_⟩
    have w := o2.2.2.2 y
    refine ⟨w.1, ?_, gP_cat (oE_gP O) w.2.2⟩
    rw [List.length_append, ← Nat.add_assoc]; exact w.2.1
  · rw [sq_n z] at hQ
    rw [c_exprF (n := n) (by rw [O.2.2.1]; exact z) (by rw [O.1.1 _ _ (by omega)]; exact T.1) n0]
    exact hQ _ (oE_f O.1 O.2.1 O.2.2.1 z)
theorem e_cond {G : Int → CR} (T : Lc c n h) (n0 : 0 ≤ n) (K : KC (d + 3) 11 [.inl o, .inl 0] c n G) (O : oE s f p L h h1) (b : f = 0 → ((s + L.length : Nat) : Int) ≤ p ∧ p ≤ n) (hQ : ∀ h2, oE s (sq f (G p).1) (G p).2.1 (L ++ (G p).2.2.1) h h2 → Q none h2) : dh_wpM (d + 3) 11 [.inr (.inr (some 5)), .inl o, .inl 0] h1 Q := by
  by_cases z : f = 0
  · subst z
    rw [sq_z] at hQ
    have R := oE_RS T O
    refine K p _ h1 Q R (b rfl).1 (b rfl).2 (fun h2 o2 => hQ _ ?_)
    refine ⟨fr_trans O.1 o2.1, o2.2.1, o2.2.2.1, fun y => ?_⟩
    have w := o2.2.2.2 y
    refine ⟨w.1, ?_, gP_cat (oE_gP O) w.2.2⟩
    rw [List.length_append, ← Nat.add_assoc]; exact w.2.1
  · rw [sq_n z] at hQ
    refine c_condF (n := n) (by rw [O.2.2.1]; exact z) (by rw [O.1.1 _ _ (by omega)]; exact T.1) n0 O.2.1 (fun h3 f3 b3 e3 => ?_)
    exact hQ _ (oE_f (fr_trans O.1 f3) b3 (by rw [e3, O.2.2.1]) z)
theorem c_letter (R : RS c n p s h) (n1 : n ≤ 160) (p0 : 0 ≤ p) (p1 : p ≤ 900) (hq : h.1 6 6 = q) (hQ : ∀ h2, oE s (pR0 c q p) (p + 1) [] h h2 → Q (some (.inl (c p))) h2) : dh_wpM (d + 2) 10 [.inr (.inr (some 5))] h Q := by
  rw [m10]
  have hp3 := R.2.1
  unfold pR0 at hQ
  by_cases y : c p = 109 ∨ c p = 102
  · rw [if_pos y] at hQ
    have Y : dh_wp dh_sh (dh_wpM (d + 1)) (dh_bl 10) Q 1 [some (.inr (.inr (some 5))), some (.inl (c p))] [] h := by
      by_cases q8 : 8 ≤ q
      · rw [if_pos q8] at hQ
        ((try simp only [u10_1, bk10_1, c_failS R p0 (show p ≤ 1000 by omega) (show (0 : Int) ≤ 4 by omega) (show (4 : Int) ≤ 20 by omega), sh5, sh6, hq, show ¬ (q : Int) < 8 by omega, wb_ldi, wb_ldl, wb_ldr, wb_iinc, wb_sti, wb_str, wb_stl, wb_ci, wb_cl, wb_i0, wb_i1, wb_i2, wb_i5, wb_i6, wb_i7, wb_i8, wb_i9, wb_i3, wb_i4, wb_l0, wb_l1, wb_l2, wb_l5, wb_l6, wb_l3, wb_l4, wb_s0, wb_s1, wb_s2, wb_i2l, wb_l2i, wb_i2b, wb_lcmp, wb_dupi, wb_dupr, wb_popi, wb_popr, wb_ic0, wb_if0, wb_ic1, wb_if1, wb_ic2, wb_if2, wb_ic3, wb_if3, wb_ic4, wb_if4, wb_ic5, wb_if5, wb_nu0, wb_nu1, wb_nn0, wb_nn1, wb_go, wb_fall, wb_ri, wb_rl, wb_rr, wb_rz, wb_rv, wb_gi, wb_gr, wb_pi, aK_s, aN_s, aZ_s, k18_1, k18_8, k34_3, k34_4, k1_1, k2_2, k128_1, k128_2, k128_8, k567_5, k567_6, k567_7, wb_iald, wb_bald, wb_lald, wb_aald, wb_iast, wb_last, wb_bast, wb_len, wb_null, wb_sw, wb_cs1, wb_cs2, wb_cs3, wb_cs4, wb_cs5, wb_cs6, wb_cs7, wb_cv0, wb_cv1, wb_cv2, wb_cv3, wb_cv4, wb_cv5, wb_cv6, wb_m0, wb_m1, wb_m2, wb_m3, ws_0, ws_i, ws_l, ws_r, kI_s, kL_s, kR_s, lg_0, lg_s, ls_0, ls_s, ik_i, ik_l, ik_r, ik_n, kl_0, kl_s, dh_st1, dh_st2, Option.toList_some, Option.toList_none, List.cons_append, List.nil_append, Bool.false_eq_true, if_false, if_true, true_and, and_true, true_or, or_true, Nat.zero_le, Nat.reduceAdd, Nat.reduceLeDiff, ↓reduceIte, Int.reduceEq, Int.reduceLT, Int.reduceLE, Int.reduceNe, Int.reduceToNat, Int.reduceNeg, Nat.reduceEqDiff, ui_s, ui_2, ul_1, ul_s, wp_ite, sw_c, sw_n, oi_0, oi_1, oi_m1, lc_eq, lc_ne, b01_eq0, b01_ne0, b01_ok, b01_01, z_01, o_01, ne_eq, not_true, not_false_eq_true, imp_self, implies_true, false_implies, and_false, false_and, false_or, or_false, Int.add_zero]); try simp (discharger := omega) only [sh5, sh6, hq, show ¬ (q : Int) < 8 by omega, ↓if_pos, ↓if_neg, and_iff_right, dh_wr_id, ui_s, ui_p, ui_k, ui_2, ul_1, ul_s, ul_p, ul_k, true_and, and_true, and_false, false_and, if_false, if_true, not_true, not_false_eq_true, imp_self, implies_true, false_implies])
        ((try simp only [u10_2, bk10_2, sh5, hp3, wb_ldi, wb_ldl, wb_ldr, wb_iinc, wb_sti, wb_str, wb_stl, wb_ci, wb_cl, wb_i0, wb_i1, wb_i2, wb_i5, wb_i6, wb_i7, wb_i8, wb_i9, wb_i3, wb_i4, wb_l0, wb_l1, wb_l2, wb_l5, wb_l6, wb_l3, wb_l4, wb_s0, wb_s1, wb_s2, wb_i2l, wb_l2i, wb_i2b, wb_lcmp, wb_dupi, wb_dupr, wb_popi, wb_popr, wb_ic0, wb_if0, wb_ic1, wb_if1, wb_ic2, wb_if2, wb_ic3, wb_if3, wb_ic4, wb_if4, wb_ic5, wb_if5, wb_nu0, wb_nu1, wb_nn0, wb_nn1, wb_go, wb_fall, wb_ri, wb_rl, wb_rr, wb_rz, wb_rv, wb_gi, wb_gr, wb_pi, aK_s, aN_s, aZ_s, k18_1, k18_8, k34_3, k34_4, k1_1, k2_2, k128_1, k128_2, k128_8, k567_5, k567_6, k567_7, wb_iald, wb_bald, wb_lald, wb_aald, wb_iast, wb_last, wb_bast, wb_len, wb_null, wb_sw, wb_cs1, wb_cs2, wb_cs3, wb_cs4, wb_cs5, wb_cs6, wb_cs7, wb_cv0, wb_cv1, wb_cv2, wb_cv3, wb_cv4, wb_cv5, wb_cv6, wb_m0, wb_m1, wb_m2, wb_m3, ws_0, ws_i, ws_l, ws_r, kI_s, kL_s, kR_s, lg_0, lg_s, ls_0, ls_s, ik_i, ik_l, ik_r, ik_n, kl_0, kl_s, dh_st1, dh_st2, Option.toList_some, Option.toList_none, List.cons_append, List.nil_append, Bool.false_eq_true, if_false, if_true, true_and, and_true, true_or, or_true, Nat.zero_le, Nat.reduceAdd, Nat.reduceLeDiff, ↓reduceIte, Int.reduceEq, Int.reduceLT, Int.reduceLE, Int.reduceNe, Int.reduceToNat, Int.reduceNeg, Nat.reduceEqDiff, ui_s, ui_2, ul_1, ul_s, wp_ite, sw_c, sw_n, oi_0, oi_1, oi_m1, lc_eq, lc_ne, b01_eq0, b01_ne0, b01_ok, b01_01, z_01, o_01, ne_eq, not_true, not_false_eq_true, imp_self, implies_true, false_implies, and_false, false_and, false_or, or_false, Int.add_zero]); try simp (discharger := omega) only [sh5, hp3, ↓if_pos, ↓if_neg, and_iff_right, dh_wr_id, ui_s, ui_p, ui_k, ui_2, ul_1, ul_s, ul_p, ul_k, true_and, and_true, and_false, false_and, if_false, if_true, not_true, not_false_eq_true, imp_self, implies_true, false_implies])
        have g := RS_fail R (f := -1000 * 4 - p) (by omega) (w := p + 1) (Or.inr rfl)
        rw [show -1000 * 4 - p = -4000 - p by omega] at g ⊢
        exact hQ _ (oE_f g.1 g.2.1 g.2.2 (by omega))
      · rw [if_neg q8] at hQ
        ((try simp only [u10_1, bk10_1, u10_2, bk10_2, sh5, sh6, hq, hp3, show (q : Int) < 8 by omega, wb_ldi, wb_ldl, wb_ldr, wb_iinc, wb_sti, wb_str, wb_stl, wb_ci, wb_cl, wb_i0, wb_i1, wb_i2, wb_i5, wb_i6, wb_i7, wb_i8, wb_i9, wb_i3, wb_i4, wb_l0, wb_l1, wb_l2, wb_l5, wb_l6, wb_l3, wb_l4, wb_s0, wb_s1, wb_s2, wb_i2l, wb_l2i, wb_i2b, wb_lcmp, wb_dupi, wb_dupr, wb_popi, wb_popr, wb_ic0, wb_if0, wb_ic1, wb_if1, wb_ic2, wb_if2, wb_ic3, wb_if3, wb_ic4, wb_if4, wb_ic5, wb_if5, wb_nu0, wb_nu1, wb_nn0, wb_nn1, wb_go, wb_fall, wb_ri, wb_rl, wb_rr, wb_rz, wb_rv, wb_gi, wb_gr, wb_pi, aK_s, aN_s, aZ_s, k18_1, k18_8, k34_3, k34_4, k1_1, k2_2, k128_1, k128_2, k128_8, k567_5, k567_6, k567_7, wb_iald, wb_bald, wb_lald, wb_aald, wb_iast, wb_last, wb_bast, wb_len, wb_null, wb_sw, wb_cs1, wb_cs2, wb_cs3, wb_cs4, wb_cs5, wb_cs6, wb_cs7, wb_cv0, wb_cv1, wb_cv2, wb_cv3, wb_cv4, wb_cv5, wb_cv6, wb_m0, wb_m1, wb_m2, wb_m3, ws_0, ws_i, ws_l, ws_r, kI_s, kL_s, kR_s, lg_0, lg_s, ls_0, ls_s, ik_i, ik_l, ik_r, ik_n, kl_0, kl_s, dh_st1, dh_st2, Option.toList_some, Option.toList_none, List.cons_append, List.nil_append, Bool.false_eq_true, if_false, if_true, true_and, and_true, true_or, or_true, Nat.zero_le, Nat.reduceAdd, Nat.reduceLeDiff, ↓reduceIte, Int.reduceEq, Int.reduceLT, Int.reduceLE, Int.reduceNe, Int.reduceToNat, Int.reduceNeg, Nat.reduceEqDiff, ui_s, ui_2, ul_1, ul_s, wp_ite, sw_c, sw_n, oi_0, oi_1, oi_m1, lc_eq, lc_ne, b01_eq0, b01_ne0, b01_ok, b01_01, z_01, o_01, ne_eq, not_true, not_false_eq_true, imp_self, implies_true, false_implies, and_false, false_and, false_or, or_false, Int.add_zero]); try simp (discharger := omega) only [sh5, sh6, hq, hp3, show (q : Int) < 8 by omega, ↓if_pos, ↓if_neg, and_iff_right, dh_wr_id, ui_s, ui_p, ui_k, ui_2, ul_1, ul_s, ul_p, ul_k, true_and, and_true, and_false, false_and, if_false, if_true, not_true, not_false_eq_true, imp_self, implies_true, false_implies])
        exact hQ _ (gP_oE (gP_5 (Or.inl rfl) gP_refl) (RS_3 R))
    rcases y with y | y
    · rw [y] at Y
      ((try simp only [u10_0, bk10_0, c_signS R n1 p0, y, Y, sh5, wb_ldi, wb_ldl, wb_ldr, wb_iinc, wb_sti, wb_str, wb_stl, wb_ci, wb_cl, wb_i0, wb_i1, wb_i2, wb_i5, wb_i6, wb_i7, wb_i8, wb_i9, wb_i3, wb_i4, wb_l0, wb_l1, wb_l2, wb_l5, wb_l6, wb_l3, wb_l4, wb_s0, wb_s1, wb_s2, wb_i2l, wb_l2i, wb_i2b, wb_lcmp, wb_dupi, wb_dupr, wb_popi, wb_popr, wb_ic0, wb_if0, wb_ic1, wb_if1, wb_ic2, wb_if2, wb_ic3, wb_if3, wb_ic4, wb_if4, wb_ic5, wb_if5, wb_nu0, wb_nu1, wb_nn0, wb_nn1, wb_go, wb_fall, wb_ri, wb_rl, wb_rr, wb_rz, wb_rv, wb_gi, wb_gr, wb_pi, aK_s, aN_s, aZ_s, k18_1, k18_8, k34_3, k34_4, k1_1, k2_2, k128_1, k128_2, k128_8, k567_5, k567_6, k567_7, wb_iald, wb_bald, wb_lald, wb_aald, wb_iast, wb_last, wb_bast, wb_len, wb_null, wb_sw, wb_cs1, wb_cs2, wb_cs3, wb_cs4, wb_cs5, wb_cs6, wb_cs7, wb_cv0, wb_cv1, wb_cv2, wb_cv3, wb_cv4, wb_cv5, wb_cv6, wb_m0, wb_m1, wb_m2, wb_m3, ws_0, ws_i, ws_l, ws_r, kI_s, kL_s, kR_s, lg_0, lg_s, ls_0, ls_s, ik_i, ik_l, ik_r, ik_n, kl_0, kl_s, dh_st1, dh_st2, Option.toList_some, Option.toList_none, List.cons_append, List.nil_append, Bool.false_eq_true, if_false, if_true, true_and, and_true, true_or, or_true, Nat.zero_le, Nat.reduceAdd, Nat.reduceLeDiff, ↓reduceIte, Int.reduceEq, Int.reduceLT, Int.reduceLE, Int.reduceNe, Int.reduceToNat, Int.reduceNeg, Nat.reduceEqDiff, ui_s, ui_2, ul_1, ul_s, wp_ite, sw_c, sw_n, oi_0, oi_1, oi_m1, lc_eq, lc_ne, b01_eq0, b01_ne0, b01_ok, b01_01, z_01, o_01, ne_eq, not_true, not_false_eq_true, imp_self, implies_true, false_implies, and_false, false_and, false_or, or_false, Int.add_zero]); try simp (discharger := omega) only [sh5, ↓if_pos, ↓if_neg, and_iff_right, dh_wr_id, ui_s, ui_p, ui_k, ui_2, ul_1, ul_s, ul_p, ul_k, true_and, and_true, and_false, false_and, if_false, if_true, not_true, not_false_eq_true, imp_self, implies_true, false_implies])
    · rw [y] at Y
      ((try simp only [u10_0, bk10_0, c_signS R n1 p0, y, Y, sh5, wb_ldi, wb_ldl, wb_ldr, wb_iinc, wb_sti, wb_str, wb_stl, wb_ci, wb_cl, wb_i0, wb_i1, wb_i2, wb_i5, wb_i6, wb_i7, wb_i8, wb_i9, wb_i3, wb_i4, wb_l0, wb_l1, wb_l2, wb_l5, wb_l6, wb_l3, wb_l4, wb_s0, wb_s1, wb_s2, wb_i2l, wb_l2i, wb_i2b, wb_lcmp, wb_dupi, wb_dupr, wb_popi, wb_popr, wb_ic0, wb_if0, wb_ic1, wb_if1, wb_ic2, wb_if2, wb_ic3, wb_if3, wb_ic4, wb_if4, wb_ic5, wb_if5, wb_nu0, wb_nu1, wb_nn0, wb_nn1, wb_go, wb_fall, wb_ri, wb_rl, wb_rr, wb_rz, wb_rv, wb_gi, wb_gr, wb_pi, aK_s, aN_s, aZ_s, k18_1, k18_8, k34_3, k34_4, k1_1, k2_2, k128_1, k128_2, k128_8, k567_5, k567_6, k567_7, wb_iald, wb_bald, wb_lald, wb_aald, wb_iast, wb_last, wb_bast, wb_len, wb_null, wb_sw, wb_cs1, wb_cs2, wb_cs3, wb_cs4, wb_cs5, wb_cs6, wb_cs7, wb_cv0, wb_cv1, wb_cv2, wb_cv3, wb_cv4, wb_cv5, wb_cv6, wb_m0, wb_m1, wb_m2, wb_m3, ws_0, ws_i, ws_l, ws_r, kI_s, kL_s, kR_s, lg_0, lg_s, ls_0, ls_s, ik_i, ik_l, ik_r, ik_n, kl_0, kl_s, dh_st1, dh_st2, Option.toList_some, Option.toList_none, List.cons_append, List.nil_append, Bool.false_eq_true, if_false, if_true, true_and, and_true, true_or, or_true, Nat.zero_le, Nat.reduceAdd, Nat.reduceLeDiff, ↓reduceIte, Int.reduceEq, Int.reduceLT, Int.reduceLE, Int.reduceNe, Int.reduceToNat, Int.reduceNeg, Nat.reduceEqDiff, ui_s, ui_2, ul_1, ul_s, wp_ite, sw_c, sw_n, oi_0, oi_1, oi_m1, lc_eq, lc_ne, b01_eq0, b01_ne0, b01_ok, b01_01, z_01, o_01, ne_eq, not_true, not_false_eq_true, imp_self, implies_true, false_implies, and_false, false_and, false_or, or_false, Int.add_zero]); try simp (discharger := omega) only [sh5, ↓if_pos, ↓if_neg, and_iff_right, dh_wr_id, ui_s, ui_p, ui_k, ui_2, ul_1, ul_s, ul_p, ul_k, true_and, and_true, and_false, false_and, if_false, if_true, not_true, not_false_eq_true, imp_self, implies_true, false_implies])
  · rw [if_neg y] at hQ
    have y1 : ¬ c p = 109 := fun e => y (Or.inl e)
    have y2 : ¬ c p = 102 := fun e => y (Or.inr e)
    ((try simp only [u10_0, bk10_0, c_signS R n1 p0, c_failS R p0 (show p ≤ 1000 by omega) (show (0 : Int) ≤ 1 by omega) (show (1 : Int) ≤ 20 by omega), sh5, y1, y2, wb_ldi, wb_ldl, wb_ldr, wb_iinc, wb_sti, wb_str, wb_stl, wb_ci, wb_cl, wb_i0, wb_i1, wb_i2, wb_i5, wb_i6, wb_i7, wb_i8, wb_i9, wb_i3, wb_i4, wb_l0, wb_l1, wb_l2, wb_l5, wb_l6, wb_l3, wb_l4, wb_s0, wb_s1, wb_s2, wb_i2l, wb_l2i, wb_i2b, wb_lcmp, wb_dupi, wb_dupr, wb_popi, wb_popr, wb_ic0, wb_if0, wb_ic1, wb_if1, wb_ic2, wb_if2, wb_ic3, wb_if3, wb_ic4, wb_if4, wb_ic5, wb_if5, wb_nu0, wb_nu1, wb_nn0, wb_nn1, wb_go, wb_fall, wb_ri, wb_rl, wb_rr, wb_rz, wb_rv, wb_gi, wb_gr, wb_pi, aK_s, aN_s, aZ_s, k18_1, k18_8, k34_3, k34_4, k1_1, k2_2, k128_1, k128_2, k128_8, k567_5, k567_6, k567_7, wb_iald, wb_bald, wb_lald, wb_aald, wb_iast, wb_last, wb_bast, wb_len, wb_null, wb_sw, wb_cs1, wb_cs2, wb_cs3, wb_cs4, wb_cs5, wb_cs6, wb_cs7, wb_cv0, wb_cv1, wb_cv2, wb_cv3, wb_cv4, wb_cv5, wb_cv6, wb_m0, wb_m1, wb_m2, wb_m3, ws_0, ws_i, ws_l, ws_r, kI_s, kL_s, kR_s, lg_0, lg_s, ls_0, ls_s, ik_i, ik_l, ik_r, ik_n, kl_0, kl_s, dh_st1, dh_st2, Option.toList_some, Option.toList_none, List.cons_append, List.nil_append, Bool.false_eq_true, if_false, if_true, true_and, and_true, true_or, or_true, Nat.zero_le, Nat.reduceAdd, Nat.reduceLeDiff, ↓reduceIte, Int.reduceEq, Int.reduceLT, Int.reduceLE, Int.reduceNe, Int.reduceToNat, Int.reduceNeg, Nat.reduceEqDiff, ui_s, ui_2, ul_1, ul_s, wp_ite, sw_c, sw_n, oi_0, oi_1, oi_m1, lc_eq, lc_ne, b01_eq0, b01_ne0, b01_ok, b01_01, z_01, o_01, ne_eq, not_true, not_false_eq_true, imp_self, implies_true, false_implies, and_false, false_and, false_or, or_false, Int.add_zero]); try simp (discharger := omega) only [sh5, y1, y2, ↓if_pos, ↓if_neg, and_iff_right, dh_wr_id, ui_s, ui_p, ui_k, ui_2, ul_1, ul_s, ul_p, ul_k, true_and, and_true, and_false, false_and, if_false, if_true, not_true, not_false_eq_true, imp_self, implies_true, false_implies])
    ((try simp only [u10_2, bk10_2, sh5, hp3, wb_ldi, wb_ldl, wb_ldr, wb_iinc, wb_sti, wb_str, wb_stl, wb_ci, wb_cl, wb_i0, wb_i1, wb_i2, wb_i5, wb_i6, wb_i7, wb_i8, wb_i9, wb_i3, wb_i4, wb_l0, wb_l1, wb_l2, wb_l5, wb_l6, wb_l3, wb_l4, wb_s0, wb_s1, wb_s2, wb_i2l, wb_l2i, wb_i2b, wb_lcmp, wb_dupi, wb_dupr, wb_popi, wb_popr, wb_ic0, wb_if0, wb_ic1, wb_if1, wb_ic2, wb_if2, wb_ic3, wb_if3, wb_ic4, wb_if4, wb_ic5, wb_if5, wb_nu0, wb_nu1, wb_nn0, wb_nn1, wb_go, wb_fall, wb_ri, wb_rl, wb_rr, wb_rz, wb_rv, wb_gi, wb_gr, wb_pi, aK_s, aN_s, aZ_s, k18_1, k18_8, k34_3, k34_4, k1_1, k2_2, k128_1, k128_2, k128_8, k567_5, k567_6, k567_7, wb_iald, wb_bald, wb_lald, wb_aald, wb_iast, wb_last, wb_bast, wb_len, wb_null, wb_sw, wb_cs1, wb_cs2, wb_cs3, wb_cs4, wb_cs5, wb_cs6, wb_cs7, wb_cv0, wb_cv1, wb_cv2, wb_cv3, wb_cv4, wb_cv5, wb_cv6, wb_m0, wb_m1, wb_m2, wb_m3, ws_0, ws_i, ws_l, ws_r, kI_s, kL_s, kR_s, lg_0, lg_s, ls_0, ls_s, ik_i, ik_l, ik_r, ik_n, kl_0, kl_s, dh_st1, dh_st2, Option.toList_some, Option.toList_none, List.cons_append, List.nil_append, Bool.false_eq_true, if_false, if_true, true_and, and_true, true_or, or_true, Nat.zero_le, Nat.reduceAdd, Nat.reduceLeDiff, ↓reduceIte, Int.reduceEq, Int.reduceLT, Int.reduceLE, Int.reduceNe, Int.reduceToNat, Int.reduceNeg, Nat.reduceEqDiff, ui_s, ui_2, ul_1, ul_s, wp_ite, sw_c, sw_n, oi_0, oi_1, oi_m1, lc_eq, lc_ne, b01_eq0, b01_ne0, b01_ok, b01_01, z_01, o_01, ne_eq, not_true, not_false_eq_true, imp_self, implies_true, false_implies, and_false, false_and, false_or, or_false, Int.add_zero]); try simp (discharger := omega) only [sh5, hp3, ↓if_pos, ↓if_neg, and_iff_right, dh_wr_id, ui_s, ui_p, ui_k, ui_2, ul_1, ul_s, ul_p, ul_k, true_and, and_true, and_false, false_and, if_false, if_true, not_true, not_false_eq_true, imp_self, implies_true, false_implies])
    have g := RS_fail R (f := -1000 * 1 - p) (by omega) (w := p + 1) (Or.inr rfl)
    rw [show -1000 * 1 - p = -1000 - p by omega] at g ⊢
    exact hQ _ (oE_f g.1 g.2.1 g.2.2 (by omega))
end LZ
