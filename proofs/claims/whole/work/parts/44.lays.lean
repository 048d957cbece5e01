/-! ===== the reference's tables of a law: how long, how many ways ===== -/
def mn (a b : Int) : Int := if a < b then a else b
def mxx (a b : Int) : Int := if b < a then a else b
/-- the least, the greatest of f over the bits -/
def fMin (set good : BitVec 64) (f : Int → Int) (a x : Int) : Int := if set.getLsbD x.toNat = true then (if good.getLsbD x.toNat = true then mn a (f x) else a) else a
def fMax (set : BitVec 64) (f : Int → Int) (a x : Int) : Int := if set.getLsbD x.toNat = true then mxx a (f x) else a
def fSum (set : BitVec 64) (f : Int → Int) (a x : Int) : Int := if set.getLsbD x.toNat = true then a + f x else a
section LS
variable {set good : BitVec 64} {f : Int → Int} {hp : Int}
theorem no_bits {b : BitVec 64} (hb : inB b hp) (e : ∀ z : Int, 1 ≤ z → z < 1 + (hp.toNat : Int) → b.getLsbD z.toNat = false) : b = 0#64 := bv_zero.mpr (fun i => by
  cases t : b.getLsbD i with
  | false => rfl
  | true => have r := hb i t; have := e i (by omega) (by omega); rw [Int.toNat_natCast, t] at this; exact this)
theorem e_soon (h0 : 0 ≤ hp) (h1 : hp ≤ 40) (hg : inB good hp) (gz : good ≠ 0#64) (sub : ∀ i, good.getLsbD i = true → set.getLsbD i = true) (hf : ∀ x, 1 ≤ x → x ≤ hp → 0 ≤ f x ∧ f x ≤ 1000) : fo (fun a x => if hasb good x = true then cb true a (f x + 1) else a) 0 1 hp.toNat = fo (fMin set good f) 1000000 1 hp.toNat + 1 := by
  have r := fo_rel (f := fun a x => if hasb good x = true then cb true a (f x + 1) else a) (g := fMin set good f) (fun a b y => (a = 0 ∧ b = 1000000 ∧ ∀ z : Int, 1 ≤ z → z < y → good.getLsbD z.toNat = false) ∨ (a = b + 1 ∧ 0 ≤ b ∧ b ≤ 1000)) (n := hp.toNat) (a := 0) (b := 1000000) (x := 1) (Or.inl ⟨rfl, rfl, fun z a b => by omega⟩) (fun a b y y0 y1 p => ?_)
  · rcases r with ⟨_, _, e⟩ | ⟨e, _⟩
    · exact absurd (no_bits hg e) gz
    · exact e
  · have fy := hf y y0 (by omega)
    simp only [hasb_in (b := good) (x := y) (by omega) (by omega), fMin]
    by_cases q : good.getLsbD y.toNat = true
    · rw [if_pos q, if_pos q, if_pos (sub _ q)]
      unfold cb mn
      simp only [if_true]
      right
      rcases p with ⟨rfl, rfl, _⟩ | ⟨rfl, p⟩
      · rw [if_pos (Or.inl rfl), if_neg (by omega)]; omega
      · split <;> split <;> omega
    · rw [if_neg q, if_neg q]
      have q' : good.getLsbD y.toNat = false := by simpa using q
      rw [ite_self]
      rcases p with ⟨p1, p2, p3⟩ | p
      · refine Or.inl ⟨p1, p2, fun z z0 z1 => ?_⟩
        by_cases e : z = y
        · rw [e]; exact q'
        · exact p3 z z0 (by omega)
      · exact Or.inr p
theorem e_late (h0 : 0 ≤ hp) (h1 : hp ≤ 40) (hg : inB set hp) (gz : set ≠ 0#64) (hf : ∀ x, 1 ≤ x → x ≤ hp → 0 ≤ f x ∧ f x ≤ 1000) : fo (fun a x => if hasb set x = true then cb false a (f x + 1) else a) 0 1 hp.toNat = fo (fMax set f) 0 1 hp.toNat + 1 := by
  have r := fo_rel (f := fun a x => if hasb set x = true then cb false a (f x + 1) else a) (g := fMax set f) (fun a b y => (a = 0 ∧ b = 0 ∧ ∀ z : Int, 1 ≤ z → z < y → set.getLsbD z.toNat = false) ∨ (a = b + 1 ∧ 0 ≤ b)) (n := hp.toNat) (a := 0) (b := 0) (x := 1) (Or.inl ⟨rfl, rfl, fun z a b => by omega⟩) (fun a b y y0 y1 p => ?_)
  · rcases r with ⟨_, _, e⟩ | ⟨e, _⟩
    · exact absurd (no_bits hg e) gz
    · exact e
  · have fy := hf y y0 (by omega)
    simp only [hasb_in (b := set) (x := y) (by omega) (by omega), fMax]
    by_cases q : set.getLsbD y.toNat = true
    · rw [if_pos q, if_pos q]
      unfold cb mxx
      simp only [Bool.false_eq_true, if_false]
      right
      rcases p with ⟨rfl, rfl, _⟩ | ⟨rfl, p⟩
      · rw [if_pos (Or.inl rfl)]; split <;> omega
      · split <;> split <;> omega
    · rw [if_neg q, if_neg q]
      have q' : set.getLsbD y.toNat = false := by simpa using q
      rcases p with ⟨p1, p2, p3⟩ | p
      · refine Or.inl ⟨p1, p2, fun z z0 z1 => ?_⟩
        by_cases e : z = y
        · rw [e]; exact q'
        · exact p3 z z0 (by omega)
      · exact Or.inr p
theorem e_many (h0 : 0 ≤ hp) (h1 : hp ≤ 40) (hf : ∀ x, 1 ≤ x → x ≤ hp → 0 ≤ f x ∧ f x ≤ 1000) : fo (fun a x => if hasb set x = true then cb false a (f x + 1) else a) 0 1 hp.toNat = fo (fMax set f) (-1) 1 hp.toNat + 1 := by
  have r := fo_rel (f := fun a x => if hasb set x = true then cb false a (f x + 1) else a) (g := fMax set f) (fun a b _ => a = b + 1 ∧ -1 ≤ b) (n := hp.toNat) (a := 0) (b := -1) (x := 1) (by omega) (fun a b y y0 y1 p => ?_)
  · exact r.1
  · have fy := hf y y0 (by omega)
    simp only [hasb_in (b := set) (x := y) (by omega) (by omega), fMax]
    by_cases q : set.getLsbD y.toNat = true
    · rw [if_pos q, if_pos q]
      unfold cb mxx
      simp only [Bool.false_eq_true, if_false]
      split <;> split <;> omega
    · rw [if_neg q, if_neg q]; exact p
theorem e_none {b : Bool} {n : Nat} : ∀ {a x : Int}, fo (fun a x => if hasb 0#64 x = true then cb b a (f x + 1) else a) a x n = a := by
  induction n with
  | zero => intro a x; rfl
  | succ n ih => intro a x; rw [fo, show hasb 0#64 x = false by simp [hasb]]; simpa using ih
theorem e_sum {g : Int → Int × Int} (h1 : hp ≤ 40) {i0 : Int} : fo (fSum set (fun x => (g x).1 + (g x).2)) i0 1 hp.toNat = (fo (fun a x => if hasb set x = true then (a.1 + (g x).2, a.2 + (g x).1) else a) (0, i0) 1 hp.toNat).1 + (fo (fun a x => if hasb set x = true then (a.1 + (g x).2, a.2 + (g x).1) else a) (0, i0) 1 hp.toNat).2 := by
  have r := fo_rel (f := fun a x => if hasb set x = true then (a.1 + (g x).2, a.2 + (g x).1) else a) (g := fSum set (fun x => (g x).1 + (g x).2)) (fun a b _ => b = a.1 + a.2) (n := hp.toNat) (a := (0, i0)) (b := i0) (x := 1) (by simp) (fun a b y y0 y1 p => ?_)
  · exact r
  · simp only [hasb_in (b := set) (x := y) (by omega) (by omega), fSum]
    by_cases q : set.getLsbD y.toNat = true
    · rw [if_pos q, if_pos q]; simp only []; omega
    · rw [if_neg q, if_neg q]; exact p
theorem e_won {g : Int → Int × Int} (h1 : hp ≤ 40) {i0 : Int} : fo (fSum set (fun x => (g x).2)) 0 1 hp.toNat = (fo (fun a x => if hasb set x = true then (a.1 + (g x).2, a.2 + (g x).1) else a) (0, i0) 1 hp.toNat).1 := by
  have r := fo_rel (f := fun a x => if hasb set x = true then (a.1 + (g x).2, a.2 + (g x).1) else a) (g := fSum set (fun x => (g x).2)) (fun a b _ => b = a.1) (n := hp.toNat) (a := (0, i0)) (b := 0) (x := 1) rfl (fun a b y y0 y1 p => ?_)
  · exact r
  · simp only [hasb_in (b := set) (x := y) (by omega) (by omega), fSum]
    by_cases q : set.getLsbD y.toNat = true
    · rw [if_pos q, if_pos q]; simp only []; omega
    · rw [if_neg q, if_neg q]; exact p
end LS
theorem ls_id {a b : Int} (a0 : 0 ≤ a) (b0 : 0 ≤ b) (h1 : a + b ≤ 1000000000000000000) : (if (BitVec.ofInt 64 a + BitVec.ofInt 64 b).toInt < 1000000000000000000 then BitVec.ofInt 64 a + BitVec.ofInt 64 b else 1000000000000000000#64) = BitVec.ofInt 64 (a + b) := by
  rw [← BitVec.ofInt_add, toI (by omega) (by omega)]
  by_cases q : a + b < 1000000000000000000
  · rw [if_pos q]
  · rw [if_neg q, show a + b = 1000000000000000000 by omega]; decide
theorem oi_sub {a b : Int} : BitVec.ofInt 64 a - BitVec.ofInt 64 b = BitVec.ofInt 64 (a - b) := by
  have e : BitVec.ofInt 64 a = BitVec.ofInt 64 (a - b) + BitVec.ofInt 64 b := by rw [← BitVec.ofInt_add]; congr 1; omega
  rw [e, BitVec.add_sub_cancel]
theorem ls_id2 {a b c : Int} (a0 : 0 ≤ a) (b0 : 0 ≤ b) (c0 : 0 ≤ c) (h1 : a + b ≤ 1000000000000000000) : (if (BitVec.ofInt 64 a + BitVec.ofInt 64 (c + b) - BitVec.ofInt 64 c).toInt < 1000000000000000000 then BitVec.ofInt 64 a + BitVec.ofInt 64 (c + b) - BitVec.ofInt 64 c else 1000000000000000000#64) = BitVec.ofInt 64 (a + b) := by
  have e : BitVec.ofInt 64 a + BitVec.ofInt 64 (c + b) - BitVec.ofInt 64 c = BitVec.ofInt 64 a + BitVec.ofInt 64 b := by
    rw [← BitVec.ofInt_add, oi_sub, ← BitVec.ofInt_add]; congr 1; omega
  rw [e, ls_id a0 b0 h1]
section LY
variable {d : Nat} {Q : Option dh_V → dh_AH → Prop} {h h' : dh_AH} {x l heap last top : Int}
/-- the reference's tables at a cell -/
def tbAt (T G : Int → Int → BitVec 64) (h : dh_AH) (hh t : Int) : Prop := h.1 165 (41 * hh + t).toNat = LEN T G 0 hh t ∧ h.1 166 (41 * hh + t).toNat = LEN T G 1 hh t ∧ h.1 167 (41 * hh + t).toNat = LEN T G 2 hh t ∧ h.2 168 (41 * hh + t).toNat = BitVec.ofInt 64 ((ROW T hh t).1 + (ROW T hh t).2) ∧ h.2 169 (41 * hh + t).toNat = BitVec.ofInt 64 (ROW T hh t).1
theorem l_laysState {set good : BitVec 64} {f0 f1 f2 : Int → Int} {g : Int → Int × Int} (h0 : 0 ≤ heap) (h1 : heap ≤ 40) (hf : ∀ x, 1 ≤ x → x ≤ heap → h.1 165 (41 * (heap - x) + x).toNat = f0 x ∧ h.1 166 (41 * (heap - x) + x).toNat = f1 x ∧ h.1 167 (41 * (heap - x) + x).toNat = f2 x ∧ h.2 168 (41 * (heap - x) + x).toNat = BitVec.ofInt 64 ((g x).1 + (g x).2) ∧ h.2 169 (41 * (heap - x) + x).toNat = BitVec.ofInt 64 (g x).1) (hg : ∀ x, 1 ≤ x → x ≤ heap → 0 ≤ (g x).1 ∧ 0 ≤ (g x).2 ∧ (g x).1 + (g x).2 ≤ 1099511627776) (n : Nat) :
    ∀ (x soon late few many rows won : Int) (a17 : Option dh_V), dh_isL a17 = false → 1 ≤ x → x + n = heap + 1 → 0 ≤ rows → rows ≤ x * 1099511627776 → 0 ≤ won → won ≤ x * 1099511627776 →
    (∀ b17, dh_isL b17 = false → dh_wp dh_sh (dh_wpM (d + 1)) (dh_bl 193) Q 5 [some (.inr (.inr (some 147))), some (.inl l), some (.inl heap), some (.inl last), some (.inr (.inl set)), none, some (.inr (.inl good)), none, some (.inl (fo (fMin set good f0) soon x n)), some (.inl (fo (fMax set f0) late x n)), some (.inl (fo (fMin set set f1) few x n)), some (.inl (fo (fMax set f2) many x n)), some (.inr (.inl (BitVec.ofInt 64 (fo (fSum set (fun x => (g x).1 + (g x).2)) rows x n)))), none, some (.inr (.inl (BitVec.ofInt 64 (fo (fSum set (fun x => (g x).2)) won x n)))), none, some (.inl (heap + 1)), b17] [] h) →
    dh_wp dh_sh (dh_wpM (d + 1)) (dh_bl 193) Q 1 [some (.inr (.inr (some 147))), some (.inl l), some (.inl heap), some (.inl last), some (.inr (.inl set)), none, some (.inr (.inl good)), none, some (.inl soon), some (.inl late), some (.inl few), some (.inl many), some (.inr (.inl (BitVec.ofInt 64 rows))), none, some (.inr (.inl (BitVec.ofInt 64 won))), none, some (.inl x), a17] [] h := by
  induction n with
  | zero =>
    intro x soon late few many rows won a17 ha x0 hn r0 r1 w0 w1 hQ
    have e : x = heap + 1 := by omega
    subst e
    ((try simp only [u193_1, bk193_1, wb_ldi, wb_ldl, wb_ldr, wb_iinc, wb_sti, wb_str, wb_stl, wb_ci, wb_cl, wb_i0, wb_i1, wb_i2, wb_i5, wb_i6, wb_i7, wb_i8, wb_i9, wb_i3, wb_i4, wb_l0, wb_l1, wb_l2, wb_l5, wb_l6, wb_l3, wb_l4, wb_s0, wb_s1, wb_s2, wb_i2l, wb_l2i, wb_i2b, wb_lcmp, wb_dupi, wb_dupr, wb_popi, wb_popr, wb_ic0, wb_if0, wb_ic1, wb_if1, wb_ic2, wb_if2, wb_ic3, wb_if3, wb_ic4, wb_if4, wb_ic5, wb_if5, wb_nu0, wb_nu1, wb_nn0, wb_nn1, wb_go, wb_fall, wb_ri, wb_rl, wb_rr, wb_rz, wb_rv, wb_gi, wb_gr, wb_pi, aK_s, aN_s, aZ_s, k18_1, k18_8, k34_3, k34_4, k1_1, k2_2, k128_1, k128_2, k128_8, k567_5, k567_6, k567_7, wb_iald, wb_bald, wb_lald, wb_aald, wb_iast, wb_last, wb_bast, wb_len, wb_null, wb_sw, wb_cs1, wb_cs2, wb_cs3, wb_cs4, wb_cs5, wb_cs6, wb_cs7, wb_cv0, wb_cv1, wb_cv2, wb_cv3, wb_cv4, wb_cv5, wb_cv6, wb_m0, wb_m1, wb_m2, wb_m3, ws_0, ws_i, ws_l, ws_r, kI_s, kL_s, kR_s, lg_0, lg_s, ls_0, ls_s, ik_i, ik_l, ik_r, ik_n, kl_0, kl_s, dh_st1, dh_st2, Option.toList_some, Option.toList_none, List.cons_append, List.nil_append, Bool.false_eq_true, if_false, if_true, true_and, and_true, true_or, or_true, Nat.zero_le, Nat.reduceAdd, Nat.reduceLeDiff, ↓reduceIte, Int.reduceEq, Int.reduceLT, Int.reduceLE, Int.reduceNe, Int.reduceToNat, Int.reduceNeg, Nat.reduceEqDiff, ui_s, ui_2, ul_1, ul_s, wp_ite, sw_c, sw_n, oi_0, oi_1, oi_m1, lc_eq, lc_ne, b01_eq0, b01_ne0, b01_ok, b01_01, z_01, o_01, ne_eq, not_true, not_false_eq_true, imp_self, implies_true, false_implies, and_false, false_and, false_or, or_false]); try simp (discharger := omega) only [↓if_pos, ↓if_neg, and_iff_right, dh_wr_id, ui_s, ui_p, ui_k, ui_2, ul_1, ul_s, ul_p, ul_k, true_and, and_true, and_false, false_and, if_false, if_true, not_true, not_false_eq_true, imp_self, implies_true, false_implies])
    exact hQ a17 ha
  | succ n ih =>
    intro x soon late few many rows won a17 ha x0 hn r0 r1 w0 w1 hQ
    have hfx := hf x x0 (by omega)
    have hgx := hg x x0 (by omega)
    simp only [fo] at hQ
    rw [u193_1]
    by_cases q : set.getLsbD x.toNat = true
    · simp only [fMin, fMax, fSum, q, if_true] at hQ
      by_cases q2 : good.getLsbD x.toNat = true
      · simp only [q2, if_true] at hQ
        ((try simp only [bk193_1, c_mhas (x := x) (by omega) (by omega), q, u193_2, bk193_2, c_at, q2, sh147, sh165, Int.mul_zero, Int.zero_add, hfx.1, c_min, ha, wb_ldi, wb_ldl, wb_ldr, wb_iinc, wb_sti, wb_str, wb_stl, wb_ci, wb_cl, wb_i0, wb_i1, wb_i2, wb_i5, wb_i6, wb_i7, wb_i8, wb_i9, wb_i3, wb_i4, wb_l0, wb_l1, wb_l2, wb_l5, wb_l6, wb_l3, wb_l4, wb_s0, wb_s1, wb_s2, wb_i2l, wb_l2i, wb_i2b, wb_lcmp, wb_dupi, wb_dupr, wb_popi, wb_popr, wb_ic0, wb_if0, wb_ic1, wb_if1, wb_ic2, wb_if2, wb_ic3, wb_if3, wb_ic4, wb_if4, wb_ic5, wb_if5, wb_nu0, wb_nu1, wb_nn0, wb_nn1, wb_go, wb_fall, wb_ri, wb_rl, wb_rr, wb_rz, wb_rv, wb_gi, wb_gr, wb_pi, aK_s, aN_s, aZ_s, k18_1, k18_8, k34_3, k34_4, k1_1, k2_2, k128_1, k128_2, k128_8, k567_5, k567_6, k567_7, wb_iald, wb_bald, wb_lald, wb_aald, wb_iast, wb_last, wb_bast, wb_len, wb_null, wb_sw, wb_cs1, wb_cs2, wb_cs3, wb_cs4, wb_cs5, wb_cs6, wb_cs7, wb_cv0, wb_cv1, wb_cv2, wb_cv3, wb_cv4, wb_cv5, wb_cv6, wb_m0, wb_m1, wb_m2, wb_m3, ws_0, ws_i, ws_l, ws_r, kI_s, kL_s, kR_s, lg_0, lg_s, ls_0, ls_s, ik_i, ik_l, ik_r, ik_n, kl_0, kl_s, dh_st1, dh_st2, Option.toList_some, Option.toList_none, List.cons_append, List.nil_append, Bool.false_eq_true, if_false, if_true, true_and, and_true, true_or, or_true, Nat.zero_le, Nat.reduceAdd, Nat.reduceLeDiff, ↓reduceIte, Int.reduceEq, Int.reduceLT, Int.reduceLE, Int.reduceNe, Int.reduceToNat, Int.reduceNeg, Nat.reduceEqDiff, ui_s, ui_2, ul_1, ul_s, wp_ite, sw_c, sw_n, oi_0, oi_1, oi_m1, lc_eq, lc_ne, b01_eq0, b01_ne0, b01_ok, b01_01, z_01, o_01, ne_eq, not_true, not_false_eq_true, imp_self, implies_true, false_implies, and_false, false_and, false_or, or_false]); try simp (discharger := omega) only [sh147, sh165, Int.mul_zero, Int.zero_add, hfx.1, c_min, ha, ↓if_pos, ↓if_neg, and_iff_right, dh_wr_id, ui_s, ui_p, ui_k, ui_2, ul_1, ul_s, ul_p, ul_k, true_and, and_true, and_false, false_and, if_false, if_true, not_true, not_false_eq_true, imp_self, implies_true, false_implies])
        ((try simp only [u193_3, bk193_3, c_max, c_min, c_less, sh147, sh165, sh166, sh167, sh168, sh169, hfx.1, hfx.2.1, hfx.2.2.1, hfx.2.2.2.1, hfx.2.2.2.2, wb_ldi, wb_ldl, wb_ldr, wb_iinc, wb_sti, wb_str, wb_stl, wb_ci, wb_cl, wb_i0, wb_i1, wb_i2, wb_i5, wb_i6, wb_i7, wb_i8, wb_i9, wb_i3, wb_i4, wb_l0, wb_l1, wb_l2, wb_l5, wb_l6, wb_l3, wb_l4, wb_s0, wb_s1, wb_s2, wb_i2l, wb_l2i, wb_i2b, wb_lcmp, wb_dupi, wb_dupr, wb_popi, wb_popr, wb_ic0, wb_if0, wb_ic1, wb_if1, wb_ic2, wb_if2, wb_ic3, wb_if3, wb_ic4, wb_if4, wb_ic5, wb_if5, wb_nu0, wb_nu1, wb_nn0, wb_nn1, wb_go, wb_fall, wb_ri, wb_rl, wb_rr, wb_rz, wb_rv, wb_gi, wb_gr, wb_pi, aK_s, aN_s, aZ_s, k18_1, k18_8, k34_3, k34_4, k1_1, k2_2, k128_1, k128_2, k128_8, k567_5, k567_6, k567_7, wb_iald, wb_bald, wb_lald, wb_aald, wb_iast, wb_last, wb_bast, wb_len, wb_null, wb_sw, wb_cs1, wb_cs2, wb_cs3, wb_cs4, wb_cs5, wb_cs6, wb_cs7, wb_cv0, wb_cv1, wb_cv2, wb_cv3, wb_cv4, wb_cv5, wb_cv6, wb_m0, wb_m1, wb_m2, wb_m3, ws_0, ws_i, ws_l, ws_r, kI_s, kL_s, kR_s, lg_0, lg_s, ls_0, ls_s, ik_i, ik_l, ik_r, ik_n, kl_0, kl_s, dh_st1, dh_st2, Option.toList_some, Option.toList_none, List.cons_append, List.nil_append, Bool.false_eq_true, if_false, if_true, true_and, and_true, true_or, or_true, Nat.zero_le, Nat.reduceAdd, Nat.reduceLeDiff, ↓reduceIte, Int.reduceEq, Int.reduceLT, Int.reduceLE, Int.reduceNe, Int.reduceToNat, Int.reduceNeg, Nat.reduceEqDiff, ui_s, ui_2, ul_1, ul_s, wp_ite, sw_c, sw_n, oi_0, oi_1, oi_m1, lc_eq, lc_ne, b01_eq0, b01_ne0, b01_ok, b01_01, z_01, o_01, ne_eq, not_true, not_false_eq_true, imp_self, implies_true, false_implies, and_false, false_and, false_or, or_false]); try simp (discharger := omega) only [sh147, sh165, sh166, sh167, sh168, sh169, hfx.1, hfx.2.1, hfx.2.2.1, hfx.2.2.2.1, hfx.2.2.2.2, ↓if_pos, ↓if_neg, and_iff_right, dh_wr_id, ui_s, ui_p, ui_k, ui_2, ul_1, ul_s, ul_p, ul_k, true_and, and_true, and_false, false_and, if_false, if_true, not_true, not_false_eq_true, imp_self, implies_true, false_implies])
        rw [ls_id (by omega) (by omega) (by omega), ls_id2 (by omega) (by omega) (by omega) (by omega)]
        ((try simp only [u193_4, bk193_4, wb_ldi, wb_ldl, wb_ldr, wb_iinc, wb_sti, wb_str, wb_stl, wb_ci, wb_cl, wb_i0, wb_i1, wb_i2, wb_i5, wb_i6, wb_i7, wb_i8, wb_i9, wb_i3, wb_i4, wb_l0, wb_l1, wb_l2, wb_l5, wb_l6, wb_l3, wb_l4, wb_s0, wb_s1, wb_s2, wb_i2l, wb_l2i, wb_i2b, wb_lcmp, wb_dupi, wb_dupr, wb_popi, wb_popr, wb_ic0, wb_if0, wb_ic1, wb_if1, wb_ic2, wb_if2, wb_ic3, wb_if3, wb_ic4, wb_if4, wb_ic5, wb_if5, wb_nu0, wb_nu1, wb_nn0, wb_nn1, wb_go, wb_fall, wb_ri, wb_rl, wb_rr, wb_rz, wb_rv, wb_gi, wb_gr, wb_pi, aK_s, aN_s, aZ_s, k18_1, k18_8, k34_3, k34_4, k1_1, k2_2, k128_1, k128_2, k128_8, k567_5, k567_6, k567_7, wb_iald, wb_bald, wb_lald, wb_aald, wb_iast, wb_last, wb_bast, wb_len, wb_null, wb_sw, wb_cs1, wb_cs2, wb_cs3, wb_cs4, wb_cs5, wb_cs6, wb_cs7, wb_cv0, wb_cv1, wb_cv2, wb_cv3, wb_cv4, wb_cv5, wb_cv6, wb_m0, wb_m1, wb_m2, wb_m3, ws_0, ws_i, ws_l, ws_r, kI_s, kL_s, kR_s, lg_0, lg_s, ls_0, ls_s, ik_i, ik_l, ik_r, ik_n, kl_0, kl_s, dh_st1, dh_st2, Option.toList_some, Option.toList_none, List.cons_append, List.nil_append, Bool.false_eq_true, if_false, if_true, true_and, and_true, true_or, or_true, Nat.zero_le, Nat.reduceAdd, Nat.reduceLeDiff, ↓reduceIte, Int.reduceEq, Int.reduceLT, Int.reduceLE, Int.reduceNe, Int.reduceToNat, Int.reduceNeg, Nat.reduceEqDiff, ui_s, ui_2, ul_1, ul_s, wp_ite, sw_c, sw_n, oi_0, oi_1, oi_m1, lc_eq, lc_ne, b01_eq0, b01_ne0, b01_ok, b01_01, z_01, o_01, ne_eq, not_true, not_false_eq_true, imp_self, implies_true, false_implies, and_false, false_and, false_or, or_false]); try simp (discharger := omega) only [↓if_pos, ↓if_neg, and_iff_right, dh_wr_id, ui_s, ui_p, ui_k, ui_2, ul_1, ul_s, ul_p, ul_k, true_and, and_true, and_false, false_and, if_false, if_true, not_true, not_false_eq_true, imp_self, implies_true, false_implies])
        exact ih (x + 1) _ _ _ _ _ _ _ rfl (by omega) (by omega) (by omega) (by omega) (by omega) (by omega) hQ
      · simp only [q2, if_false] at hQ
        ((try simp only [bk193_1, c_mhas (x := x) (by omega) (by omega), q, u193_2, bk193_2, c_at, q2, sh147, sh165, Int.mul_zero, Int.zero_add, hfx.1, c_min, ha, wb_ldi, wb_ldl, wb_ldr, wb_iinc, wb_sti, wb_str, wb_stl, wb_ci, wb_cl, wb_i0, wb_i1, wb_i2, wb_i5, wb_i6, wb_i7, wb_i8, wb_i9, wb_i3, wb_i4, wb_l0, wb_l1, wb_l2, wb_l5, wb_l6, wb_l3, wb_l4, wb_s0, wb_s1, wb_s2, wb_i2l, wb_l2i, wb_i2b, wb_lcmp, wb_dupi, wb_dupr, wb_popi, wb_popr, wb_ic0, wb_if0, wb_ic1, wb_if1, wb_ic2, wb_if2, wb_ic3, wb_if3, wb_ic4, wb_if4, wb_ic5, wb_if5, wb_nu0, wb_nu1, wb_nn0, wb_nn1, wb_go, wb_fall, wb_ri, wb_rl, wb_rr, wb_rz, wb_rv, wb_gi, wb_gr, wb_pi, aK_s, aN_s, aZ_s, k18_1, k18_8, k34_3, k34_4, k1_1, k2_2, k128_1, k128_2, k128_8, k567_5, k567_6, k567_7, wb_iald, wb_bald, wb_lald, wb_aald, wb_iast, wb_last, wb_bast, wb_len, wb_null, wb_sw, wb_cs1, wb_cs2, wb_cs3, wb_cs4, wb_cs5, wb_cs6, wb_cs7, wb_cv0, wb_cv1, wb_cv2, wb_cv3, wb_cv4, wb_cv5, wb_cv6, wb_m0, wb_m1, wb_m2, wb_m3, ws_0, ws_i, ws_l, ws_r, kI_s, kL_s, kR_s, lg_0, lg_s, ls_0, ls_s, ik_i, ik_l, ik_r, ik_n, kl_0, kl_s, dh_st1, dh_st2, Option.toList_some, Option.toList_none, List.cons_append, List.nil_append, Bool.false_eq_true, if_false, if_true, true_and, and_true, true_or, or_true, Nat.zero_le, Nat.reduceAdd, Nat.reduceLeDiff, ↓reduceIte, Int.reduceEq, Int.reduceLT, Int.reduceLE, Int.reduceNe, Int.reduceToNat, Int.reduceNeg, Nat.reduceEqDiff, ui_s, ui_2, ul_1, ul_s, wp_ite, sw_c, sw_n, oi_0, oi_1, oi_m1, lc_eq, lc_ne, b01_eq0, b01_ne0, b01_ok, b01_01, z_01, o_01, ne_eq, not_true, not_false_eq_true, imp_self, implies_true, false_implies, and_false, false_and, false_or, or_false]); try simp (discharger := omega) only [sh147, sh165, Int.mul_zero, Int.zero_add, hfx.1, c_min, ha, ↓if_pos, ↓if_neg, and_iff_right, dh_wr_id, ui_s, ui_p, ui_k, ui_2, ul_1, ul_s, ul_p, ul_k, true_and, and_true, and_false, false_and, if_false, if_true, not_true, not_false_eq_true, imp_self, implies_true, false_implies])
        ((try simp only [u193_3, bk193_3, c_max, c_min, c_less, sh147, sh165, sh166, sh167, sh168, sh169, hfx.1, hfx.2.1, hfx.2.2.1, hfx.2.2.2.1, hfx.2.2.2.2, wb_ldi, wb_ldl, wb_ldr, wb_iinc, wb_sti, wb_str, wb_stl, wb_ci, wb_cl, wb_i0, wb_i1, wb_i2, wb_i5, wb_i6, wb_i7, wb_i8, wb_i9, wb_i3, wb_i4, wb_l0, wb_l1, wb_l2, wb_l5, wb_l6, wb_l3, wb_l4, wb_s0, wb_s1, wb_s2, wb_i2l, wb_l2i, wb_i2b, wb_lcmp, wb_dupi, wb_dupr, wb_popi, wb_popr, wb_ic0, wb_if0, wb_ic1, wb_if1, wb_ic2, wb_if2, wb_ic3, wb_if3, wb_ic4, wb_if4, wb_ic5, wb_if5, wb_nu0, wb_nu1, wb_nn0, wb_nn1, wb_go, wb_fall, wb_ri, wb_rl, wb_rr, wb_rz, wb_rv, wb_gi, wb_gr, wb_pi, aK_s, aN_s, aZ_s, k18_1, k18_8, k34_3, k34_4, k1_1, k2_2, k128_1, k128_2, k128_8, k567_5, k567_6, k567_7, wb_iald, wb_bald, wb_lald, wb_aald, wb_iast, wb_last, wb_bast, wb_len, wb_null, wb_sw, wb_cs1, wb_cs2, wb_cs3, wb_cs4, wb_cs5, wb_cs6, wb_cs7, wb_cv0, wb_cv1, wb_cv2, wb_cv3, wb_cv4, wb_cv5, wb_cv6, wb_m0, wb_m1, wb_m2, wb_m3, ws_0, ws_i, ws_l, ws_r, kI_s, kL_s, kR_s, lg_0, lg_s, ls_0, ls_s, ik_i, ik_l, ik_r, ik_n, kl_0, kl_s, dh_st1, dh_st2, Option.toList_some, Option.toList_none, List.cons_append, List.nil_append, Bool.false_eq_true, if_false, if_true, true_and, and_true, true_or, or_true, Nat.zero_le, Nat.reduceAdd, Nat.reduceLeDiff, ↓reduceIte, Int.reduceEq, Int.reduceLT, Int.reduceLE, Int.reduceNe, Int.reduceToNat, Int.reduceNeg, Nat.reduceEqDiff, ui_s, ui_2, ul_1, ul_s, wp_ite, sw_c, sw_n, oi_0, oi_1, oi_m1, lc_eq, lc_ne, b01_eq0, b01_ne0, b01_ok, b01_01, z_01, o_01, ne_eq, not_true, not_false_eq_true, imp_self, implies_true, false_implies, and_false, false_and, false_or, or_false]); try simp (discharger := omega) only [sh147, sh165, sh166, sh167, sh168, sh169, hfx.1, hfx.2.1, hfx.2.2.1, hfx.2.2.2.1, hfx.2.2.2.2, ↓if_pos, ↓if_neg, and_iff_right, dh_wr_id, ui_s, ui_p, ui_k, ui_2, ul_1, ul_s, ul_p, ul_k, true_and, and_true, and_false, false_and, if_false, if_true, not_true, not_false_eq_true, imp_self, implies_true, false_implies])
        rw [ls_id (by omega) (by omega) (by omega), ls_id2 (by omega) (by omega) (by omega) (by omega)]
        ((try simp only [u193_4, bk193_4, wb_ldi, wb_ldl, wb_ldr, wb_iinc, wb_sti, wb_str, wb_stl, wb_ci, wb_cl, wb_i0, wb_i1, wb_i2, wb_i5, wb_i6, wb_i7, wb_i8, wb_i9, wb_i3, wb_i4, wb_l0, wb_l1, wb_l2, wb_l5, wb_l6, wb_l3, wb_l4, wb_s0, wb_s1, wb_s2, wb_i2l, wb_l2i, wb_i2b, wb_lcmp, wb_dupi, wb_dupr, wb_popi, wb_popr, wb_ic0, wb_if0, wb_ic1, wb_if1, wb_ic2, wb_if2, wb_ic3, wb_if3, wb_ic4, wb_if4, wb_ic5, wb_if5, wb_nu0, wb_nu1, wb_nn0, wb_nn1, wb_go, wb_fall, wb_ri, wb_rl, wb_rr, wb_rz, wb_rv, wb_gi, wb_gr, wb_pi, aK_s, aN_s, aZ_s, k18_1, k18_8, k34_3, k34_4, k1_1, k2_2, k128_1, k128_2, k128_8, k567_5, k567_6, k567_7, wb_iald, wb_bald, wb_lald, wb_aald, wb_iast, wb_last, wb_bast, wb_len, wb_null, wb_sw, wb_cs1, wb_cs2, wb_cs3, wb_cs4, wb_cs5, wb_cs6, wb_cs7, wb_cv0, wb_cv1, wb_cv2, wb_cv3, wb_cv4, wb_cv5, wb_cv6, wb_m0, wb_m1, wb_m2, wb_m3, ws_0, ws_i, ws_l, ws_r, kI_s, kL_s, kR_s, lg_0, lg_s, ls_0, ls_s, ik_i, ik_l, ik_r, ik_n, kl_0, kl_s, dh_st1, dh_st2, Option.toList_some, Option.toList_none, List.cons_append, List.nil_append, Bool.false_eq_true, if_false, if_true, true_and, and_true, true_or, or_true, Nat.zero_le, Nat.reduceAdd, Nat.reduceLeDiff, ↓reduceIte, Int.reduceEq, Int.reduceLT, Int.reduceLE, Int.reduceNe, Int.reduceToNat, Int.reduceNeg, Nat.reduceEqDiff, ui_s, ui_2, ul_1, ul_s, wp_ite, sw_c, sw_n, oi_0, oi_1, oi_m1, lc_eq, lc_ne, b01_eq0, b01_ne0, b01_ok, b01_01, z_01, o_01, ne_eq, not_true, not_false_eq_true, imp_self, implies_true, false_implies, and_false, false_and, false_or, or_false]); try simp (discharger := omega) only [↓if_pos, ↓if_neg, and_iff_right, dh_wr_id, ui_s, ui_p, ui_k, ui_2, ul_1, ul_s, ul_p, ul_k, true_and, and_true, and_false, false_and, if_false, if_true, not_true, not_false_eq_true, imp_self, implies_true, false_implies])
        exact ih (x + 1) _ _ _ _ _ _ _ rfl (by omega) (by omega) (by omega) (by omega) (by omega) (by omega) hQ
    · simp only [fMin, fMax, fSum, q, if_false] at hQ
      ((try simp only [bk193_1, c_mhas (x := x) (by omega) (by omega), q, u193_4, bk193_4, ha, wb_ldi, wb_ldl, wb_ldr, wb_iinc, wb_sti, wb_str, wb_stl, wb_ci, wb_cl, wb_i0, wb_i1, wb_i2, wb_i5, wb_i6, wb_i7, wb_i8, wb_i9, wb_i3, wb_i4, wb_l0, wb_l1, wb_l2, wb_l5, wb_l6, wb_l3, wb_l4, wb_s0, wb_s1, wb_s2, wb_i2l, wb_l2i, wb_i2b, wb_lcmp, wb_dupi, wb_dupr, wb_popi, wb_popr, wb_ic0, wb_if0, wb_ic1, wb_if1, wb_ic2, wb_if2, wb_ic3, wb_if3, wb_ic4, wb_if4, wb_ic5, wb_if5, wb_nu0, wb_nu1, wb_nn0, wb_nn1, wb_go, wb_fall, wb_ri, wb_rl, wb_rr, wb_rz, wb_rv, wb_gi, wb_gr, wb_pi, aK_s, aN_s, aZ_s, k18_1, k18_8, k34_3, k34_4, k1_1, k2_2, k128_1, k128_2, k128_8, k567_5, k567_6, k567_7, wb_iald, wb_bald, wb_lald, wb_aald, wb_iast, wb_last, wb_bast, wb_len, wb_null, wb_sw, wb_cs1, wb_cs2, wb_cs3, wb_cs4, wb_cs5, wb_cs6, wb_cs7, wb_cv0, wb_cv1, wb_cv2, wb_cv3, wb_cv4, wb_cv5, wb_cv6, wb_m0, wb_m1, wb_m2, wb_m3, ws_0, ws_i, ws_l, ws_r, kI_s, kL_s, kR_s, lg_0, lg_s, ls_0, ls_s, ik_i, ik_l, ik_r, ik_n, kl_0, kl_s, dh_st1, dh_st2, Option.toList_some, Option.toList_none, List.cons_append, List.nil_append, Bool.false_eq_true, if_false, if_true, true_and, and_true, true_or, or_true, Nat.zero_le, Nat.reduceAdd, Nat.reduceLeDiff, ↓reduceIte, Int.reduceEq, Int.reduceLT, Int.reduceLE, Int.reduceNe, Int.reduceToNat, Int.reduceNeg, Nat.reduceEqDiff, ui_s, ui_2, ul_1, ul_s, wp_ite, sw_c, sw_n, oi_0, oi_1, oi_m1, lc_eq, lc_ne, b01_eq0, b01_ne0, b01_ok, b01_01, z_01, o_01, ne_eq, not_true, not_false_eq_true, imp_self, implies_true, false_implies, and_false, false_and, false_or, or_false]); try simp (discharger := omega) only [ha, ↓if_pos, ↓if_neg, and_iff_right, dh_wr_id, ui_s, ui_p, ui_k, ui_2, ul_1, ul_s, ul_p, ul_k, true_and, and_true, and_false, false_and, if_false, if_true, not_true, not_false_eq_true, imp_self, implies_true, false_implies])
      exact ih (x + 1) _ _ _ _ _ _ a17 ha (by omega) (by omega) (by omega) (by omega) (by omega) (by omega) hQ
end LY
