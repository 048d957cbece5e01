/-! ===== law: the reference's sums against the pure reading ===== -/
theorem sS_m {x : Int} (q : Jm x) : sS x = oS x ∧ 4 ≤ sS x ∧ sS x ≤ 6 := by
  rcases q with rfl | rfl | rfl <;> decide
theorem sS_a {x : Int} (q : Ja x) : sS x = oS x ∧ 2 ≤ sS x ∧ sS x ≤ 3 := by
  rcases q with rfl | rfl <;> decide
theorem sS_n {x : Int} (q1 : ¬ Jm x) (q2 : ¬ Ja x) : sS x = -1 := by
  unfold sS
  rw [if_neg (fun e => q2 (Or.inl e)), if_neg (fun e => q2 (Or.inr e)), if_neg (fun e => q1 (Or.inl e)), if_neg (fun e => q1 (Or.inr (Or.inl e))), if_neg (fun e => q1 (Or.inr (Or.inr e)))]
section ME
variable {d : Nat} {Q K : Option dh_V → dh_AH → Prop} {h h' h'' : dh_AH} {c : Int → Int} {n p o x y v f : Int} {a b m bs k : Nat} {W S : List Int} {L M : List TK} {t : TK}
theorem y_T (hn : ∀ p, n ≤ p → c p = -1) {G : Int → ER} (w : wE n G) (ho : YF d c n o G (fun _ => True) (fun _ P => P = [])) : YF d c n o (fun p => zL c true G 200 p [] []) oS1 oP1 := by
  intro p a S bs h Q K M hS hb hK hQ1 hQ2
  have Z : ∀ (m : Nat) (p1 : Int) (acc : List TK) (PD : List Int) (h' : dh_AH) (K : Option dh_V → dh_AH → Prop), MS c n p1 o (a + acc.length) (en PD ++ S) h' → gQ a acc h h' → ((a + acc.length + PD.length : Nat) : Int) ≤ p1 → zL c true G m p1 acc (tk0 PD) = zL c true G 200 p [] [] → (∀ y, y ∈ PD → 4 ≤ y ∧ y ≤ 6) → yK d bs Q K → 200 ≤ p1 + m → dh_wp dh_sh (dh_wpM (d + 3)) (dh_bl 172) K 0 [some (.inr (.inr (some 147))), none] [] h' := by
    intro m
    induction m with
    | zero =>
      intro p1 acc PD h' K M' g l hr hP hK' hm
      have := M'.2.2.2.2.2.2.2.2.2.1; have := M'.2.2.2.2.2.2.2.2.2.2.1; omega
    | succ m ih =>
      intro p1 acc PD h' K M' g l hr hP hK' hm
      have pn := M'.2.2.2.2.2.2.2.2.2.1
      have w1 := w p1 (by omega) pn
      rw [zL] at hr
      refine ho p1 (a + acc.length) (en PD ++ S) bs h' Q K M' trivial (by rw [List.length_append]; omega) hK' (fun z h2 f2 e2 => ?_) (fun z h2 L2 P2 M2 g2 eL hP2 => ?_)
      · rw [if_pos z] at hr
        have e : (zL c true G 200 p [] []).1 = (G p1).1 := by rw [← hr]
        exact hQ1 (by rw [e]; exact z) h2 (fr_trans g.1 f2) (by rw [e2, e])
      · rw [if_neg (by omega)] at hr
        subst hP2
        simp only [tk0, List.map_nil, List.append_nil] at eL
        subst eL
        obtain ⟨a1, a2, a3, a4⟩ := w1.1 z
        have M2' : MS c n (G p1).2.1 o (a + (acc ++ (G p1).2.2).length) (en PD ++ S) h2 := by rw [List.length_append, ← Nat.add_assoc]; exact M2
        have g3 : gQ a (acc ++ (G p1).2.2) h h2 := gQ_cat g g2
        by_cases q : Jm (c (G p1).2.1)
        · rw [if_pos (Or.inl ⟨rfl, q⟩)] at hr
          have ss := sS_m q
          have ne : ¬ sS (c (G p1).2.1) < 4 := by omega
          refine LH_sign M2' (Or.inl q) (fun x hx => ?_) ?_ (by rw [List.length_append]; omega) (fun h3 K3 hK3 M3 g4 => ?_)
          · exact Or.inl (hP x hx)
          · rw [if_neg ne]
            exact fun e => e.elim hS (fun e => e.1 rfl)
          · refine ih ((G p1).2.1 + 1) (acc ++ (G p1).2.2 ++ tk0 PD) [sS (c (G p1).2.1)] h3 K3 ?_ (gQ_cat g3 g4) ?_ ?_ ?_ hK3 (by omega)
            · rw [List.length_append, tk0_len, ← Nat.add_assoc]; exact M3
            · rw [List.length_append, tk0_len, List.length_append]; simp only [List.length_cons, List.length_nil]; omega
            · rw [ss.1]; exact hr
            · intro y hy
              rw [List.mem_singleton] at hy; rw [hy]; exact ss.2
        · rw [if_neg (fun z => z.elim (fun y => q y.2) (fun y => by simp at y))] at hr
          have E1 : (zL c true G 200 p [] []).1 = 0 := by rw [← hr]
          have E2 : (zL c true G 200 p [] []).2.1 = (G p1).2.1 := by rw [← hr]
          have E3 : (zL c true G 200 p [] []).2.2 = acc ++ (G p1).2.2 ++ tk0 PD := by rw [← hr]
          refine hQ2 E1 h2 (acc ++ (G p1).2.2) PD ?_ g3 E3.symm ?_
          · simp only []; rw [E2]; exact M2'
          · simp only []; rw [E2]; exact ⟨q, hP⟩
  exact Z 200 p [] [] h K M gQ_refl (by have := M.2.2.2.2.2.2.2.1; simp only [List.length_nil]; omega) rfl (fun y hy => by simp at hy) hK (by have := M.2.2.2.2.2.2.2.1; omega)
theorem y_E (hn : ∀ p, n ≤ p → c p = -1) {G : Int → ER} (w : wE n G) (ho : YF d c n o G oS1 oP1) : YF d c n o (fun p => zL c false G 200 p [] []) oS0 oP0 := by
  intro p a S bs h Q K M hS hb hK hQ1 hQ2
  have Z : ∀ (m : Nat) (p1 : Int) (acc : List TK) (PD : List Int) (h' : dh_AH) (K : Option dh_V → dh_AH → Prop), MS c n p1 o (a + acc.length) (en PD ++ S) h' → gQ a acc h h' → ((a + acc.length + PD.length : Nat) : Int) ≤ p1 → zL c false G m p1 acc (tk0 PD) = zL c false G 200 p [] [] → (∀ y, y ∈ PD → 2 ≤ y ∧ y ≤ 3) → yK d bs Q K → 200 ≤ p1 + m → dh_wp dh_sh (dh_wpM (d + 3)) (dh_bl 172) K 0 [some (.inr (.inr (some 147))), none] [] h' := by
    intro m
    induction m with
    | zero =>
      intro p1 acc PD h' K M' g l hr hP hK' hm
      have := M'.2.2.2.2.2.2.2.2.2.1; have := M'.2.2.2.2.2.2.2.2.2.2.1; omega
    | succ m ih =>
      intro p1 acc PD h' K M' g l hr hP hK' hm
      have pn := M'.2.2.2.2.2.2.2.2.2.1
      have w1 := w p1 (by omega) pn
      have wS : oS1 (wt (en PD ++ S)) := by
        cases PD with
        | nil => exact fun e => hS (by have e' : 4 ≤ wt S ∧ wt S ≤ 6 := e; omega)
        | cons y PD =>
          have hy := hP y List.mem_cons_self
          have e : wt (en (y :: PD) ++ S) = y := by show 1048576 * y / 1048576 = y; omega
          rw [e]; intro e; omega
      rw [zL] at hr
      refine ho p1 (a + acc.length) (en PD ++ S) bs h' Q K M' wS (by rw [List.length_append]; omega) hK' (fun z h2 f2 e2 => ?_) (fun z h2 L2 P2 M2 g2 eL hP2 => ?_)
      · rw [if_pos z] at hr
        have e : (zL c false G 200 p [] []).1 = (G p1).1 := by rw [← hr]
        exact hQ1 (by rw [e]; exact z) h2 (fr_trans g.1 f2) (by rw [e2, e])
      · rw [if_neg (by omega)] at hr
        obtain ⟨a1, a2, a3, a4⟩ := w1.1 z
        have ll : L2.length + P2.length = (G p1).2.2.length := by rw [← eL, List.length_append, tk0_len]
        have M2' : MS c n (G p1).2.1 o (a + (acc ++ L2).length) (en (P2 ++ PD) ++ S) h2 := by rw [List.length_append, ← Nat.add_assoc, en_app, List.append_assoc]; exact M2
        have g3 : gQ a (acc ++ L2) h h2 := gQ_cat g g2
        have cc : acc ++ L2 ++ tk0 (P2 ++ PD) = acc ++ (G p1).2.2 ++ tk0 PD := by rw [← eL, tk0_app, List.append_assoc, List.append_assoc, List.append_assoc]
        by_cases q : Ja (c (G p1).2.1)
        · rw [if_pos (Or.inr ⟨rfl, q⟩)] at hr
          have ss := sS_a q
          have ne : sS (c (G p1).2.1) < 4 := by omega
          refine LH_sign M2' (Or.inr q) (fun x hx => ?_) ?_ (by rw [List.length_append, List.length_append]; omega) (fun h3 K3 hK3 M3 g4 => ?_)
          · rw [if_pos ne]
            rcases List.mem_append.1 hx with hx | hx
            · exact Or.inl (hP2.2 x hx)
            · exact Or.inr ⟨by omega, by have := hP x hx; omega⟩
          · rw [if_pos ne]
            exact fun e => hS (by rcases e with e | e <;> omega)
          · refine ih ((G p1).2.1 + 1) (acc ++ (G p1).2.2 ++ tk0 PD) [sS (c (G p1).2.1)] h3 K3 ?_ ?_ ?_ ?_ ?_ hK3 (by omega)
            · rw [← cc, List.length_append, tk0_len, ← Nat.add_assoc]; exact M3
            · rw [← cc]; exact gQ_cat g3 g4
            · rw [List.length_append, tk0_len, List.length_append]; simp only [List.length_cons, List.length_nil]; omega
            · rw [ss.1]; exact hr
            · intro y hy
              rw [List.mem_singleton] at hy; rw [hy]; exact ss.2
        · rw [if_neg (fun z => z.elim (fun y => by simp at y) (fun y => q y.2))] at hr
          have E1 : (zL c false G 200 p [] []).1 = 0 := by rw [← hr]
          have E2 : (zL c false G 200 p [] []).2.1 = (G p1).2.1 := by rw [← hr]
          have E3 : (zL c false G 200 p [] []).2.2 = acc ++ (G p1).2.2 ++ tk0 PD := by rw [← hr]
          refine hQ2 E1 h2 (acc ++ L2) (P2 ++ PD) ?_ g3 (cc.trans E3.symm) ?_
          · simp only []; rw [E2]; exact M2'
          · simp only []; rw [E2]
            refine ⟨⟨hP2.1, q⟩, fun y hy => ?_⟩
            rcases List.mem_append.1 hy with hy | hy
            · have := hP2.2 y hy; omega
            · have := hP y hy; omega
  exact Z 200 p [] [] h K M gQ_refl (by have := M.2.2.2.2.2.2.2.1; simp only [List.length_nil]; omega) rfl (fun y hy => by simp at hy) hK (by have := M.2.2.2.2.2.2.2.1; omega)
theorem y_F (hn : ∀ p, n ≤ p → c p = -1) (ho : o = 6 - k) (k6 : k ≤ 6) (ih : k ≠ 0 → YF d c n (o + 1) (pX c k) oS0 oP0) : YF d c n o (pF c (pX c k) k) (fun _ => True) (fun _ P => P = []) := by
  intro p a S bs h Q K M hS hb hK hQ1 hQ2
  obtain ⟨T, e1, e2, e3, e4, s, w, l1, l2, pn, n1, o0, o6⟩ := id M
  have p0 : 0 ≤ p := by omega
  by_cases q : c p = 91
  · have lt := c_lt hn (p := p) (by omega)
    rw [u172_0]
    ((try simp only [bk172_0, y_here T (show n ≤ 260 by omega) e1 p0, q, sh147, wb_ldi, wb_ldl, wb_ldr, wb_iinc, wb_sti, wb_str, wb_stl, wb_ci, wb_cl, wb_i0, wb_i1, wb_i2, wb_i5, wb_i6, wb_i7, wb_i8, wb_i9, wb_i3, wb_i4, wb_l0, wb_l1, wb_l2, wb_l5, wb_l6, wb_l3, wb_l4, wb_s0, wb_s1, wb_s2, wb_i2l, wb_l2i, wb_i2b, wb_lcmp, wb_dupi, wb_dupr, wb_popi, wb_popr, wb_ic0, wb_if0, wb_ic1, wb_if1, wb_ic2, wb_if2, wb_ic3, wb_if3, wb_ic4, wb_if4, wb_ic5, wb_if5, wb_nu0, wb_nu1, wb_nn0, wb_nn1, wb_go, wb_fall, wb_ri, wb_rl, wb_rr, wb_rz, wb_rv, wb_gi, wb_gr, wb_pi, aK_s, aN_s, aZ_s, k18_1, k18_8, k34_3, k34_4, k1_1, k2_2, k128_1, k128_2, k128_8, k567_5, k567_6, k567_7, wb_iald, wb_bald, wb_lald, wb_aald, wb_iast, wb_last, wb_bast, wb_len, wb_null, wb_sw, wb_cs1, wb_cs2, wb_cs3, wb_cs4, wb_cs5, wb_cs6, wb_cs7, wb_cv0, wb_cv1, wb_cv2, wb_cv3, wb_cv4, wb_cv5, wb_cv6, wb_m0, wb_m1, wb_m2, wb_m3, ws_0, ws_i, ws_l, ws_r, kI_s, kL_s, kR_s, lg_0, lg_s, ls_0, ls_s, ik_i, ik_l, ik_r, ik_n, kl_0, kl_s, dh_st1, dh_st2, Option.toList_some, Option.toList_none, List.cons_append, List.nil_append, Bool.false_eq_true, if_false, if_true, true_and, and_true, true_or, or_true, Nat.zero_le, Nat.reduceAdd, Nat.reduceLeDiff, ↓reduceIte, Int.reduceEq, Int.reduceLT, Int.reduceLE, Int.reduceNe, Int.reduceToNat, Int.reduceNeg, Nat.reduceEqDiff, ui_s, ui_2, ul_1, ul_s, wp_ite, sw_c, sw_n, oi_0, oi_1, oi_m1, lc_eq, lc_ne, b01_eq0, b01_ne0, b01_ok, b01_01, z_01, o_01, ne_eq, not_true, not_false_eq_true, imp_self, implies_true, false_implies, and_false, false_and, false_or, or_false, Int.add_zero]); try simp (discharger := omega) only [sh147, ↓if_pos, ↓if_neg, and_iff_right, dh_wr_id, ui_s, ui_p, ui_k, ui_2, ul_1, ul_s, ul_p, ul_k, true_and, and_true, and_false, false_and, if_false, if_true, not_true, not_false_eq_true, imp_self, implies_true, false_implies])
    have EQ : pF c (pX c k) k p = pF c (pX c k) k p := rfl
    conv at EQ => rhs; unfold pF
    rw [if_pos q] at EQ
    refine y_opens M (by omega) (by omega) (by omega) (fun o6 h2 f2 k2 => ?_) (fun o6 h2 M2 f2 g2 => ?_)
    · rw [if_pos (show k = 0 by omega)] at EQ
      ((try simp only [wb_ldi, wb_ldl, wb_ldr, wb_iinc, wb_sti, wb_str, wb_stl, wb_ci, wb_cl, wb_i0, wb_i1, wb_i2, wb_i5, wb_i6, wb_i7, wb_i8, wb_i9, wb_i3, wb_i4, wb_l0, wb_l1, wb_l2, wb_l5, wb_l6, wb_l3, wb_l4, wb_s0, wb_s1, wb_s2, wb_i2l, wb_l2i, wb_i2b, wb_lcmp, wb_dupi, wb_dupr, wb_popi, wb_popr, wb_ic0, wb_if0, wb_ic1, wb_if1, wb_ic2, wb_if2, wb_ic3, wb_if3, wb_ic4, wb_if4, wb_ic5, wb_if5, wb_nu0, wb_nu1, wb_nn0, wb_nn1, wb_go, wb_fall, wb_ri, wb_rl, wb_rr, wb_rz, wb_rv, wb_gi, wb_gr, wb_pi, aK_s, aN_s, aZ_s, k18_1, k18_8, k34_3, k34_4, k1_1, k2_2, k128_1, k128_2, k128_8, k567_5, k567_6, k567_7, wb_iald, wb_bald, wb_lald, wb_aald, wb_iast, wb_last, wb_bast, wb_len, wb_null, wb_sw, wb_cs1, wb_cs2, wb_cs3, wb_cs4, wb_cs5, wb_cs6, wb_cs7, wb_cv0, wb_cv1, wb_cv2, wb_cv3, wb_cv4, wb_cv5, wb_cv6, wb_m0, wb_m1, wb_m2, wb_m3, ws_0, ws_i, ws_l, ws_r, kI_s, kL_s, kR_s, lg_0, lg_s, ls_0, ls_s, ik_i, ik_l, ik_r, ik_n, kl_0, kl_s, dh_st1, dh_st2, Option.toList_some, Option.toList_none, List.cons_append, List.nil_append, Bool.false_eq_true, if_false, if_true, true_and, and_true, true_or, or_true, Nat.zero_le, Nat.reduceAdd, Nat.reduceLeDiff, ↓reduceIte, Int.reduceEq, Int.reduceLT, Int.reduceLE, Int.reduceNe, Int.reduceToNat, Int.reduceNeg, Nat.reduceEqDiff, ui_s, ui_2, ul_1, ul_s, wp_ite, sw_c, sw_n, oi_0, oi_1, oi_m1, lc_eq, lc_ne, b01_eq0, b01_ne0, b01_ok, b01_01, z_01, o_01, ne_eq, not_true, not_false_eq_true, imp_self, implies_true, false_implies, and_false, false_and, false_or, or_false, Int.add_zero]); try simp (discharger := omega) only [↓if_pos, ↓if_neg, and_iff_right, dh_wr_id, ui_s, ui_p, ui_k, ui_2, ul_1, ul_s, ul_p, ul_k, true_and, and_true, and_false, false_and, if_false, if_true, not_true, not_false_eq_true, imp_self, implies_true, false_implies])
      refine hK.1 _ (hQ1 ?_ _ f2 ?_)
      · rw [EQ]; simp only []; omega
      · rw [EQ, k2]
    · have k0 : k ≠ 0 := by omega
      rw [if_neg k0] at EQ
      ((try simp only [wb_ldi, wb_ldl, wb_ldr, wb_iinc, wb_sti, wb_str, wb_stl, wb_ci, wb_cl, wb_i0, wb_i1, wb_i2, wb_i5, wb_i6, wb_i7, wb_i8, wb_i9, wb_i3, wb_i4, wb_l0, wb_l1, wb_l2, wb_l5, wb_l6, wb_l3, wb_l4, wb_s0, wb_s1, wb_s2, wb_i2l, wb_l2i, wb_i2b, wb_lcmp, wb_dupi, wb_dupr, wb_popi, wb_popr, wb_ic0, wb_if0, wb_ic1, wb_if1, wb_ic2, wb_if2, wb_ic3, wb_if3, wb_ic4, wb_if4, wb_ic5, wb_if5, wb_nu0, wb_nu1, wb_nn0, wb_nn1, wb_go, wb_fall, wb_ri, wb_rl, wb_rr, wb_rz, wb_rv, wb_gi, wb_gr, wb_pi, aK_s, aN_s, aZ_s, k18_1, k18_8, k34_3, k34_4, k1_1, k2_2, k128_1, k128_2, k128_8, k567_5, k567_6, k567_7, wb_iald, wb_bald, wb_lald, wb_aald, wb_iast, wb_last, wb_bast, wb_len, wb_null, wb_sw, wb_cs1, wb_cs2, wb_cs3, wb_cs4, wb_cs5, wb_cs6, wb_cs7, wb_cv0, wb_cv1, wb_cv2, wb_cv3, wb_cv4, wb_cv5, wb_cv6, wb_m0, wb_m1, wb_m2, wb_m3, ws_0, ws_i, ws_l, ws_r, kI_s, kL_s, kR_s, lg_0, lg_s, ls_0, ls_s, ik_i, ik_l, ik_r, ik_n, kl_0, kl_s, dh_st1, dh_st2, Option.toList_some, Option.toList_none, List.cons_append, List.nil_append, Bool.false_eq_true, if_false, if_true, true_and, and_true, true_or, or_true, Nat.zero_le, Nat.reduceAdd, Nat.reduceLeDiff, ↓reduceIte, Int.reduceEq, Int.reduceLT, Int.reduceLE, Int.reduceNe, Int.reduceToNat, Int.reduceNeg, Nat.reduceEqDiff, ui_s, ui_2, ul_1, ul_s, wp_ite, sw_c, sw_n, oi_0, oi_1, oi_m1, lc_eq, lc_ne, b01_eq0, b01_ne0, b01_ok, b01_01, z_01, o_01, ne_eq, not_true, not_false_eq_true, imp_self, implies_true, false_implies, and_false, false_and, false_or, or_false, Int.add_zero]); try simp (discharger := omega) only [↓if_pos, ↓if_neg, and_iff_right, dh_wr_id, ui_s, ui_p, ui_k, ui_2, ul_1, ul_s, ul_p, ul_k, true_and, and_true, and_false, false_and, if_false, if_true, not_true, not_false_eq_true, imp_self, implies_true, false_implies])
      have wX := wE_pX hn k (p + 1) (by omega) (by omega)
      refine ih k0 (p + 1) a (1048576 * 14 :: S) bs h2 Q K M2 (by show ¬ _; rw [show wt (1048576 * 14 :: S) = 14 from rfl]; omega) (by rw [List.length_cons]; omega) hK (fun z h3 f3 k3 => ?_) (fun z h3 L3 P3 M3 g3 eL hP => ?_)
      · rw [if_pos z] at EQ
        refine hQ1 ?_ _ (fr_trans f2 f3) ?_
        · rw [EQ]; exact z
        · rw [EQ, k3]
      · rw [if_neg (by omega)] at EQ
        obtain ⟨a1, a2, a3, a4⟩ := wX.1 z
        have ll : L3.length + P3.length = (pX c k (p + 1)).2.2.length := by rw [← eL, List.length_append, tk0_len]
        have ss := sS_n hP.1.1 hP.1.2
        have s3 := M3.2.2.2.2.2.1
        have i3 : h3.1 157 S.length = 1048576 * 14 := (SR_app s3).1
        have hh : hos (h3.1 157) ((en P3 ++ 1048576 * 14 :: S).length - bs) bs = true := hos_t (i := S.length) hb (by rw [List.length_append, List.length_cons]; omega) (by rw [i3]; decide)
        have bb : bs ≤ (en P3 ++ 1048576 * 14 :: S).length := by rw [List.length_append, List.length_cons]; omega
        intro w2 hw
        rw [u174_1]
        ((try simp only [bk174_1, y_here M3.1 (show n ≤ 260 by omega) M3.2.1 (show 0 ≤ (pX c k (p + 1)).2.1 by omega), y_sumSign, ss, sh147, hw, wb_ldi, wb_ldl, wb_ldr, wb_iinc, wb_sti, wb_str, wb_stl, wb_ci, wb_cl, wb_i0, wb_i1, wb_i2, wb_i5, wb_i6, wb_i7, wb_i8, wb_i9, wb_i3, wb_i4, wb_l0, wb_l1, wb_l2, wb_l5, wb_l6, wb_l3, wb_l4, wb_s0, wb_s1, wb_s2, wb_i2l, wb_l2i, wb_i2b, wb_lcmp, wb_dupi, wb_dupr, wb_popi, wb_popr, wb_ic0, wb_if0, wb_ic1, wb_if1, wb_ic2, wb_if2, wb_ic3, wb_if3, wb_ic4, wb_if4, wb_ic5, wb_if5, wb_nu0, wb_nu1, wb_nn0, wb_nn1, wb_go, wb_fall, wb_ri, wb_rl, wb_rr, wb_rz, wb_rv, wb_gi, wb_gr, wb_pi, aK_s, aN_s, aZ_s, k18_1, k18_8, k34_3, k34_4, k1_1, k2_2, k128_1, k128_2, k128_8, k567_5, k567_6, k567_7, wb_iald, wb_bald, wb_lald, wb_aald, wb_iast, wb_last, wb_bast, wb_len, wb_null, wb_sw, wb_cs1, wb_cs2, wb_cs3, wb_cs4, wb_cs5, wb_cs6, wb_cs7, wb_cv0, wb_cv1, wb_cv2, wb_cv3, wb_cv4, wb_cv5, wb_cv6, wb_m0, wb_m1, wb_m2, wb_m3, ws_0, ws_i, ws_l, ws_r, kI_s, kL_s, kR_s, lg_0, lg_s, ls_0, ls_s, ik_i, ik_l, ik_r, ik_n, kl_0, kl_s, dh_st1, dh_st2, Option.toList_some, Option.toList_none, List.cons_append, List.nil_append, Bool.false_eq_true, if_false, if_true, true_and, and_true, true_or, or_true, Nat.zero_le, Nat.reduceAdd, Nat.reduceLeDiff, ↓reduceIte, Int.reduceEq, Int.reduceLT, Int.reduceLE, Int.reduceNe, Int.reduceToNat, Int.reduceNeg, Nat.reduceEqDiff, ui_s, ui_2, ul_1, ul_s, wp_ite, sw_c, sw_n, oi_0, oi_1, oi_m1, lc_eq, lc_ne, b01_eq0, b01_ne0, b01_ok, b01_01, z_01, o_01, ne_eq, not_true, not_false_eq_true, imp_self, implies_true, false_implies, and_false, false_and, false_or, or_false, Int.add_zero]); try simp (discharger := omega) only [sh147, hw, ↓if_pos, ↓if_neg, and_iff_right, dh_wr_id, ui_s, ui_p, ui_k, ui_2, ul_1, ul_s, ul_p, ul_k, true_and, and_true, and_false, false_and, if_false, if_true, not_true, not_false_eq_true, imp_self, implies_true, false_implies])
        by_cases y : c (pX c k (p + 1)).2.1 = 93
        · rw [if_pos y] at EQ
          have lt2 := c_lt hn (p := (pX c k (p + 1)).2.1) (by omega)
          ((try simp only [u174_4, bk174_4, y_here M3.1 (show n ≤ 260 by omega) M3.2.1 (show 0 ≤ (pX c k (p + 1)).2.1 by omega), y, y_hos M3 bb, hh, sh147, wb_ldi, wb_ldl, wb_ldr, wb_iinc, wb_sti, wb_str, wb_stl, wb_ci, wb_cl, wb_i0, wb_i1, wb_i2, wb_i5, wb_i6, wb_i7, wb_i8, wb_i9, wb_i3, wb_i4, wb_l0, wb_l1, wb_l2, wb_l5, wb_l6, wb_l3, wb_l4, wb_s0, wb_s1, wb_s2, wb_i2l, wb_l2i, wb_i2b, wb_lcmp, wb_dupi, wb_dupr, wb_popi, wb_popr, wb_ic0, wb_if0, wb_ic1, wb_if1, wb_ic2, wb_if2, wb_ic3, wb_if3, wb_ic4, wb_if4, wb_ic5, wb_if5, wb_nu0, wb_nu1, wb_nn0, wb_nn1, wb_go, wb_fall, wb_ri, wb_rl, wb_rr, wb_rz, wb_rv, wb_gi, wb_gr, wb_pi, aK_s, aN_s, aZ_s, k18_1, k18_8, k34_3, k34_4, k1_1, k2_2, k128_1, k128_2, k128_8, k567_5, k567_6, k567_7, wb_iald, wb_bald, wb_lald, wb_aald, wb_iast, wb_last, wb_bast, wb_len, wb_null, wb_sw, wb_cs1, wb_cs2, wb_cs3, wb_cs4, wb_cs5, wb_cs6, wb_cs7, wb_cv0, wb_cv1, wb_cv2, wb_cv3, wb_cv4, wb_cv5, wb_cv6, wb_m0, wb_m1, wb_m2, wb_m3, ws_0, ws_i, ws_l, ws_r, kI_s, kL_s, kR_s, lg_0, lg_s, ls_0, ls_s, ik_i, ik_l, ik_r, ik_n, kl_0, kl_s, dh_st1, dh_st2, Option.toList_some, Option.toList_none, List.cons_append, List.nil_append, Bool.false_eq_true, if_false, if_true, true_and, and_true, true_or, or_true, Nat.zero_le, Nat.reduceAdd, Nat.reduceLeDiff, ↓reduceIte, Int.reduceEq, Int.reduceLT, Int.reduceLE, Int.reduceNe, Int.reduceToNat, Int.reduceNeg, Nat.reduceEqDiff, ui_s, ui_2, ul_1, ul_s, wp_ite, sw_c, sw_n, oi_0, oi_1, oi_m1, lc_eq, lc_ne, b01_eq0, b01_ne0, b01_ok, b01_01, z_01, o_01, ne_eq, not_true, not_false_eq_true, imp_self, implies_true, false_implies, and_false, false_and, false_or, or_false, Int.add_zero]); try simp (discharger := omega) only [sh147, ↓if_pos, ↓if_neg, and_iff_right, dh_wr_id, ui_s, ui_p, ui_k, ui_2, ul_1, ul_s, ul_p, ul_k, true_and, and_true, and_false, false_and, if_false, if_true, not_true, not_false_eq_true, imp_self, implies_true, false_implies])
          refine y_close (Or.inr rfl) (fun x hx => ?_) (by rw [show wt (1048576 * 14 :: S) = 14 from rfl]; decide) M3 (by omega) (fun h4 M4 g4 => ?_)
          · have := hP.2 x hx
            by_cases x4 : 4 ≤ x
            · exact Or.inl ⟨x4, this.2⟩
            · exact Or.inr ⟨by omega, by omega⟩
          · obtain ⟨T4, q1, q2, q3, q4, q5, q6, q7, q8, q9, q10, q11, q12⟩ := id M4
            have k4 : (((1048576 * 14 :: S).length : Nat) : Int) - 1 = (S.length : Int) := by simp only [List.length_cons]; omega
            simp only [List.length_cons] at q8
            ((try simp only [u174_7, bk174_7, sh147, q1, q2, q4, k4, wb_ldi, wb_ldl, wb_ldr, wb_iinc, wb_sti, wb_str, wb_stl, wb_ci, wb_cl, wb_i0, wb_i1, wb_i2, wb_i5, wb_i6, wb_i7, wb_i8, wb_i9, wb_i3, wb_i4, wb_l0, wb_l1, wb_l2, wb_l5, wb_l6, wb_l3, wb_l4, wb_s0, wb_s1, wb_s2, wb_i2l, wb_l2i, wb_i2b, wb_lcmp, wb_dupi, wb_dupr, wb_popi, wb_popr, wb_ic0, wb_if0, wb_ic1, wb_if1, wb_ic2, wb_if2, wb_ic3, wb_if3, wb_ic4, wb_if4, wb_ic5, wb_if5, wb_nu0, wb_nu1, wb_nn0, wb_nn1, wb_go, wb_fall, wb_ri, wb_rl, wb_rr, wb_rz, wb_rv, wb_gi, wb_gr, wb_pi, aK_s, aN_s, aZ_s, k18_1, k18_8, k34_3, k34_4, k1_1, k2_2, k128_1, k128_2, k128_8, k567_5, k567_6, k567_7, wb_iald, wb_bald, wb_lald, wb_aald, wb_iast, wb_last, wb_bast, wb_len, wb_null, wb_sw, wb_cs1, wb_cs2, wb_cs3, wb_cs4, wb_cs5, wb_cs6, wb_cs7, wb_cv0, wb_cv1, wb_cv2, wb_cv3, wb_cv4, wb_cv5, wb_cv6, wb_m0, wb_m1, wb_m2, wb_m3, ws_0, ws_i, ws_l, ws_r, kI_s, kL_s, kR_s, lg_0, lg_s, ls_0, ls_s, ik_i, ik_l, ik_r, ik_n, kl_0, kl_s, dh_st1, dh_st2, Option.toList_some, Option.toList_none, List.cons_append, List.nil_append, Bool.false_eq_true, if_false, if_true, true_and, and_true, true_or, or_true, Nat.zero_le, Nat.reduceAdd, Nat.reduceLeDiff, ↓reduceIte, Int.reduceEq, Int.reduceLT, Int.reduceLE, Int.reduceNe, Int.reduceToNat, Int.reduceNeg, Nat.reduceEqDiff, ui_s, ui_2, ul_1, ul_s, wp_ite, sw_c, sw_n, oi_0, oi_1, oi_m1, lc_eq, lc_ne, b01_eq0, b01_ne0, b01_ok, b01_01, z_01, o_01, ne_eq, not_true, not_false_eq_true, imp_self, implies_true, false_implies, and_false, false_and, false_or, or_false, Int.add_zero]); try simp (discharger := omega) only [sh147, q1, q2, q4, k4, ↓if_pos, ↓if_neg, and_iff_right, dh_wr_id, ui_s, ui_p, ui_k, ui_2, ul_1, ul_s, ul_p, ul_k, true_and, and_true, and_false, false_and, if_false, if_true, not_true, not_false_eq_true, imp_self, implies_true, false_implies])
            have M5 := MS_11 (op_MS (po_MS M4) (x := o + 1 - 1) (by omega) (by omega)) (by omega)
            rw [show o + 1 - 1 = o by omega] at M5 ⊢
            have g5 : gQ a (pX c k (p + 1)).2.2 h (dh_ui (dh_ui (dh_ui h4 147 17 S.length) 147 15 o) 147 11 ((pX c k (p + 1)).2.1 + 1)) := by
              rw [← eL]
              refine gQ_o (gQ_cat (gQ_cat (L := []) (gQ_o gQ_refl f2 g2) g3) g4) (fr_trans (fr_ui (by omega)) (fr_trans (fr_ui (by omega)) (fr_ui (by omega)))) (fun i => ?_)
              rw [ui_p (by omega), ui_p (by omega), ui_p (by omega)]
            refine hQ2 (by rw [EQ]) _ (pX c k (p + 1)).2.2 [] ?_ g5 (by rw [EQ]; simp [tk0]) rfl _ rfl
            rw [EQ, ← ll, ← Nat.add_assoc]; exact M5
        · rw [if_neg y] at EQ
          ((try simp only [u174_4, bk174_4, u174_5, bk174_5, y_here M3.1 (show n ≤ 260 by omega) M3.2.1 (show 0 ≤ (pX c k (p + 1)).2.1 by omega), y_hos M3 bb, hh, sh147, y, M3.2.1, wb_ldi, wb_ldl, wb_ldr, wb_iinc, wb_sti, wb_str, wb_stl, wb_ci, wb_cl, wb_i0, wb_i1, wb_i2, wb_i5, wb_i6, wb_i7, wb_i8, wb_i9, wb_i3, wb_i4, wb_l0, wb_l1, wb_l2, wb_l5, wb_l6, wb_l3, wb_l4, wb_s0, wb_s1, wb_s2, wb_i2l, wb_l2i, wb_i2b, wb_lcmp, wb_dupi, wb_dupr, wb_popi, wb_popr, wb_ic0, wb_if0, wb_ic1, wb_if1, wb_ic2, wb_if2, wb_ic3, wb_if3, wb_ic4, wb_if4, wb_ic5, wb_if5, wb_nu0, wb_nu1, wb_nn0, wb_nn1, wb_go, wb_fall, wb_ri, wb_rl, wb_rr, wb_rz, wb_rv, wb_gi, wb_gr, wb_pi, aK_s, aN_s, aZ_s, k18_1, k18_8, k34_3, k34_4, k1_1, k2_2, k128_1, k128_2, k128_8, k567_5, k567_6, k567_7, wb_iald, wb_bald, wb_lald, wb_aald, wb_iast, wb_last, wb_bast, wb_len, wb_null, wb_sw, wb_cs1, wb_cs2, wb_cs3, wb_cs4, wb_cs5, wb_cs6, wb_cs7, wb_cv0, wb_cv1, wb_cv2, wb_cv3, wb_cv4, wb_cv5, wb_cv6, wb_m0, wb_m1, wb_m2, wb_m3, ws_0, ws_i, ws_l, ws_r, kI_s, kL_s, kR_s, lg_0, lg_s, ls_0, ls_s, ik_i, ik_l, ik_r, ik_n, kl_0, kl_s, dh_st1, dh_st2, Option.toList_some, Option.toList_none, List.cons_append, List.nil_append, Bool.false_eq_true, if_false, if_true, true_and, and_true, true_or, or_true, Nat.zero_le, Nat.reduceAdd, Nat.reduceLeDiff, ↓reduceIte, Int.reduceEq, Int.reduceLT, Int.reduceLE, Int.reduceNe, Int.reduceToNat, Int.reduceNeg, Nat.reduceEqDiff, ui_s, ui_2, ul_1, ul_s, wp_ite, sw_c, sw_n, oi_0, oi_1, oi_m1, lc_eq, lc_ne, b01_eq0, b01_ne0, b01_ok, b01_01, z_01, o_01, ne_eq, not_true, not_false_eq_true, imp_self, implies_true, false_implies, and_false, false_and, false_or, or_false, Int.add_zero]); try simp (discharger := omega) only [sh147, y, M3.2.1, ↓if_pos, ↓if_neg, and_iff_right, dh_wr_id, ui_s, ui_p, ui_k, ui_2, ul_1, ul_s, ul_p, ul_k, true_and, and_true, and_false, false_and, if_false, if_true, not_true, not_false_eq_true, imp_self, implies_true, false_implies])
          rw [y_wrong (by omega) (by omega) (by omega) (by omega)]
          ((try simp only [wb_ldi, wb_ldl, wb_ldr, wb_iinc, wb_sti, wb_str, wb_stl, wb_ci, wb_cl, wb_i0, wb_i1, wb_i2, wb_i5, wb_i6, wb_i7, wb_i8, wb_i9, wb_i3, wb_i4, wb_l0, wb_l1, wb_l2, wb_l5, wb_l6, wb_l3, wb_l4, wb_s0, wb_s1, wb_s2, wb_i2l, wb_l2i, wb_i2b, wb_lcmp, wb_dupi, wb_dupr, wb_popi, wb_popr, wb_ic0, wb_if0, wb_ic1, wb_if1, wb_ic2, wb_if2, wb_ic3, wb_if3, wb_ic4, wb_if4, wb_ic5, wb_if5, wb_nu0, wb_nu1, wb_nn0, wb_nn1, wb_go, wb_fall, wb_ri, wb_rl, wb_rr, wb_rz, wb_rv, wb_gi, wb_gr, wb_pi, aK_s, aN_s, aZ_s, k18_1, k18_8, k34_3, k34_4, k1_1, k2_2, k128_1, k128_2, k128_8, k567_5, k567_6, k567_7, wb_iald, wb_bald, wb_lald, wb_aald, wb_iast, wb_last, wb_bast, wb_len, wb_null, wb_sw, wb_cs1, wb_cs2, wb_cs3, wb_cs4, wb_cs5, wb_cs6, wb_cs7, wb_cv0, wb_cv1, wb_cv2, wb_cv3, wb_cv4, wb_cv5, wb_cv6, wb_m0, wb_m1, wb_m2, wb_m3, ws_0, ws_i, ws_l, ws_r, kI_s, kL_s, kR_s, lg_0, lg_s, ls_0, ls_s, ik_i, ik_l, ik_r, ik_n, kl_0, kl_s, dh_st1, dh_st2, Option.toList_some, Option.toList_none, List.cons_append, List.nil_append, Bool.false_eq_true, if_false, if_true, true_and, and_true, true_or, or_true, Nat.zero_le, Nat.reduceAdd, Nat.reduceLeDiff, ↓reduceIte, Int.reduceEq, Int.reduceLT, Int.reduceLE, Int.reduceNe, Int.reduceToNat, Int.reduceNeg, Nat.reduceEqDiff, ui_s, ui_2, ul_1, ul_s, wp_ite, sw_c, sw_n, oi_0, oi_1, oi_m1, lc_eq, lc_ne, b01_eq0, b01_ne0, b01_ok, b01_01, z_01, o_01, ne_eq, not_true, not_false_eq_true, imp_self, implies_true, false_implies, and_false, false_and, false_or, or_false, Int.add_zero]); try simp (discharger := omega) only [↓if_pos, ↓if_neg, and_iff_right, dh_wr_id, ui_s, ui_p, ui_k, ui_2, ul_1, ul_s, ul_p, ul_k, true_and, and_true, and_false, false_and, if_false, if_true, not_true, not_false_eq_true, imp_self, implies_true, false_implies])
          refine hQ1 ?_ _ (fr_trans f2 (fr_trans g3.1 (fr_ui (by omega)))) ?_
          · rw [EQ]; simp only []; omega
          · rw [EQ]; simp (discharger := omega) only [↓if_pos, ↓if_neg, and_iff_right, dh_wr_id, ui_s, ui_p, ui_k, ui_2, ul_1, ul_s, ul_p, ul_k, true_and, and_true, and_false, false_and, if_false, if_true, not_true, not_false_eq_true, imp_self, implies_true, false_implies]; omega
  · have EQ : pF c (pX c k) k p = pA c p := by unfold pF; rw [if_neg q]
    rw [EQ] at hQ1 hQ2
    refine y_atom M q (fun z h2 f2 k2 => hK.1 _ (hQ1 z h2 f2 k2)) (fun z h2 M2 g2 => hK.2 _ (hQ2 z h2 (pA c p).2.2 [] M2 g2 (by simp [tk0]) rfl))
theorem y_X (hn : ∀ p, n ≤ p → c p = -1) : ∀ (k : Nat) (o : Int), o = 6 - k → k ≤ 6 → YF d c n o (pX c (k + 1)) oS0 oP0
  | 0, o, ho, k6 => y_E hn (wE_pT hn (fun z => absurd rfl z)) (y_T hn (wE_pF hn (fun z => absurd rfl z)) (y_F hn ho k6 (fun z => absurd rfl z)))
  | k + 1, o, ho, k6 => y_E hn (wE_pT hn (fun _ => wE_pX hn (k + 1))) (y_T hn (wE_pF hn (fun _ => wE_pX hn (k + 1))) (y_F hn ho k6 (fun _ => y_X hn k (o + 1) (by omega) (by omega))))
theorem y_sum (hn : ∀ p, n ≤ p → c p = -1) (ho : o = 6 - k) (k6 : k ≤ 6) (M : MS c n p o a S h) (hS : oS0 (wt S)) (hQ1 : (pX c (k + 1) p).1 ≠ 0 → ∀ h', fr sM h h' → h'.1 147 13 = (pX c (k + 1) p).1 → Q (some (.inl 0)) h') (hQ2 : (pX c (k + 1) p).1 = 0 → ∀ h', MS c n (pX c (k + 1) p).2.1 o (a + (pX c (k + 1) p).2.2.length) S h' → gQ a (pX c (k + 1) p).2.2 h h' → Q (some (.inl 1)) h') : dh_wpM (d + 5) 174 [.inr (.inr (some 147))] h Q := by
  obtain ⟨T, e1, e2, e3, e4, s, w, l1, l2, pn, n1, o0, o6⟩ := id M
  rw [m174]
  ((try simp only [u174_0, bk174_0, sh147, e4, wb_ldi, wb_ldl, wb_ldr, wb_iinc, wb_sti, wb_str, wb_stl, wb_ci, wb_cl, wb_i0, wb_i1, wb_i2, wb_i5, wb_i6, wb_i7, wb_i8, wb_i9, wb_i3, wb_i4, wb_l0, wb_l1, wb_l2, wb_l5, wb_l6, wb_l3, wb_l4, wb_s0, wb_s1, wb_s2, wb_i2l, wb_l2i, wb_i2b, wb_lcmp, wb_dupi, wb_dupr, wb_popi, wb_popr, wb_ic0, wb_if0, wb_ic1, wb_if1, wb_ic2, wb_if2, wb_ic3, wb_if3, wb_ic4, wb_if4, wb_ic5, wb_if5, wb_nu0, wb_nu1, wb_nn0, wb_nn1, wb_go, wb_fall, wb_ri, wb_rl, wb_rr, wb_rz, wb_rv, wb_gi, wb_gr, wb_pi, aK_s, aN_s, aZ_s, k18_1, k18_8, k34_3, k34_4, k1_1, k2_2, k128_1, k128_2, k128_8, k567_5, k567_6, k567_7, wb_iald, wb_bald, wb_lald, wb_aald, wb_iast, wb_last, wb_bast, wb_len, wb_null, wb_sw, wb_cs1, wb_cs2, wb_cs3, wb_cs4, wb_cs5, wb_cs6, wb_cs7, wb_cv0, wb_cv1, wb_cv2, wb_cv3, wb_cv4, wb_cv5, wb_cv6, wb_m0, wb_m1, wb_m2, wb_m3, ws_0, ws_i, ws_l, ws_r, kI_s, kL_s, kR_s, lg_0, lg_s, ls_0, ls_s, ik_i, ik_l, ik_r, ik_n, kl_0, kl_s, dh_st1, dh_st2, Option.toList_some, Option.toList_none, List.cons_append, List.nil_append, Bool.false_eq_true, if_false, if_true, true_and, and_true, true_or, or_true, Nat.zero_le, Nat.reduceAdd, Nat.reduceLeDiff, ↓reduceIte, Int.reduceEq, Int.reduceLT, Int.reduceLE, Int.reduceNe, Int.reduceToNat, Int.reduceNeg, Nat.reduceEqDiff, ui_s, ui_2, ul_1, ul_s, wp_ite, sw_c, sw_n, oi_0, oi_1, oi_m1, lc_eq, lc_ne, b01_eq0, b01_ne0, b01_ok, b01_01, z_01, o_01, ne_eq, not_true, not_false_eq_true, imp_self, implies_true, false_implies, and_false, false_and, false_or, or_false, Int.add_zero]); try simp (discharger := omega) only [sh147, e4, ↓if_pos, ↓if_neg, and_iff_right, dh_wr_id, ui_s, ui_p, ui_k, ui_2, ul_1, ul_s, ul_p, ul_k, true_and, and_true, and_false, false_and, if_false, if_true, not_true, not_false_eq_true, imp_self, implies_true, false_implies])
  rw [m172]
  refine y_X hn k o ho k6 p a S S.length h Q _ M hS (Nat.le_refl _) ⟨fun h' z => ?_, fun h' z => ?_⟩ hQ1 (fun z h2 L2 P2 M2 g2 eL hP => ?_)
  · ((try simp only [wb_ldi, wb_ldl, wb_ldr, wb_iinc, wb_sti, wb_str, wb_stl, wb_ci, wb_cl, wb_i0, wb_i1, wb_i2, wb_i5, wb_i6, wb_i7, wb_i8, wb_i9, wb_i3, wb_i4, wb_l0, wb_l1, wb_l2, wb_l5, wb_l6, wb_l3, wb_l4, wb_s0, wb_s1, wb_s2, wb_i2l, wb_l2i, wb_i2b, wb_lcmp, wb_dupi, wb_dupr, wb_popi, wb_popr, wb_ic0, wb_if0, wb_ic1, wb_if1, wb_ic2, wb_if2, wb_ic3, wb_if3, wb_ic4, wb_if4, wb_ic5, wb_if5, wb_nu0, wb_nu1, wb_nn0, wb_nn1, wb_go, wb_fall, wb_ri, wb_rl, wb_rr, wb_rz, wb_rv, wb_gi, wb_gr, wb_pi, aK_s, aN_s, aZ_s, k18_1, k18_8, k34_3, k34_4, k1_1, k2_2, k128_1, k128_2, k128_8, k567_5, k567_6, k567_7, wb_iald, wb_bald, wb_lald, wb_aald, wb_iast, wb_last, wb_bast, wb_len, wb_null, wb_sw, wb_cs1, wb_cs2, wb_cs3, wb_cs4, wb_cs5, wb_cs6, wb_cs7, wb_cv0, wb_cv1, wb_cv2, wb_cv3, wb_cv4, wb_cv5, wb_cv6, wb_m0, wb_m1, wb_m2, wb_m3, ws_0, ws_i, ws_l, ws_r, kI_s, kL_s, kR_s, lg_0, lg_s, ls_0, ls_s, ik_i, ik_l, ik_r, ik_n, kl_0, kl_s, dh_st1, dh_st2, Option.toList_some, Option.toList_none, List.cons_append, List.nil_append, Bool.false_eq_true, if_false, if_true, true_and, and_true, true_or, or_true, Nat.zero_le, Nat.reduceAdd, Nat.reduceLeDiff, ↓reduceIte, Int.reduceEq, Int.reduceLT, Int.reduceLE, Int.reduceNe, Int.reduceToNat, Int.reduceNeg, Nat.reduceEqDiff, ui_s, ui_2, ul_1, ul_s, wp_ite, sw_c, sw_n, oi_0, oi_1, oi_m1, lc_eq, lc_ne, b01_eq0, b01_ne0, b01_ok, b01_01, z_01, o_01, ne_eq, not_true, not_false_eq_true, imp_self, implies_true, false_implies, and_false, false_and, false_or, or_false, Int.add_zero]); try simp (discharger := omega) only [↓if_pos, ↓if_neg, and_iff_right, dh_wr_id, ui_s, ui_p, ui_k, ui_2, ul_1, ul_s, ul_p, ul_k, true_and, and_true, and_false, false_and, if_false, if_true, not_true, not_false_eq_true, imp_self, implies_true, false_implies])
    exact z
  · ((try simp only [wb_ldi, wb_ldl, wb_ldr, wb_iinc, wb_sti, wb_str, wb_stl, wb_ci, wb_cl, wb_i0, wb_i1, wb_i2, wb_i5, wb_i6, wb_i7, wb_i8, wb_i9, wb_i3, wb_i4, wb_l0, wb_l1, wb_l2, wb_l5, wb_l6, wb_l3, wb_l4, wb_s0, wb_s1, wb_s2, wb_i2l, wb_l2i, wb_i2b, wb_lcmp, wb_dupi, wb_dupr, wb_popi, wb_popr, wb_ic0, wb_if0, wb_ic1, wb_if1, wb_ic2, wb_if2, wb_ic3, wb_if3, wb_ic4, wb_if4, wb_ic5, wb_if5, wb_nu0, wb_nu1, wb_nn0, wb_nn1, wb_go, wb_fall, wb_ri, wb_rl, wb_rr, wb_rz, wb_rv, wb_gi, wb_gr, wb_pi, aK_s, aN_s, aZ_s, k18_1, k18_8, k34_3, k34_4, k1_1, k2_2, k128_1, k128_2, k128_8, k567_5, k567_6, k567_7, wb_iald, wb_bald, wb_lald, wb_aald, wb_iast, wb_last, wb_bast, wb_len, wb_null, wb_sw, wb_cs1, wb_cs2, wb_cs3, wb_cs4, wb_cs5, wb_cs6, wb_cs7, wb_cv0, wb_cv1, wb_cv2, wb_cv3, wb_cv4, wb_cv5, wb_cv6, wb_m0, wb_m1, wb_m2, wb_m3, ws_0, ws_i, ws_l, ws_r, kI_s, kL_s, kR_s, lg_0, lg_s, ls_0, ls_s, ik_i, ik_l, ik_r, ik_n, kl_0, kl_s, dh_st1, dh_st2, Option.toList_some, Option.toList_none, List.cons_append, List.nil_append, Bool.false_eq_true, if_false, if_true, true_and, and_true, true_or, or_true, Nat.zero_le, Nat.reduceAdd, Nat.reduceLeDiff, ↓reduceIte, Int.reduceEq, Int.reduceLT, Int.reduceLE, Int.reduceNe, Int.reduceToNat, Int.reduceNeg, Nat.reduceEqDiff, ui_s, ui_2, ul_1, ul_s, wp_ite, sw_c, sw_n, oi_0, oi_1, oi_m1, lc_eq, lc_ne, b01_eq0, b01_ne0, b01_ok, b01_01, z_01, o_01, ne_eq, not_true, not_false_eq_true, imp_self, implies_true, false_implies, and_false, false_and, false_or, or_false, Int.add_zero]); try simp (discharger := omega) only [↓if_pos, ↓if_neg, and_iff_right, dh_wr_id, ui_s, ui_p, ui_k, ui_2, ul_1, ul_s, ul_p, ul_k, true_and, and_true, and_false, false_and, if_false, if_true, not_true, not_false_eq_true, imp_self, implies_true, false_implies])
    exact z _ rfl
  · obtain ⟨a1, a2, a3, a4⟩ := (wE_pX hn (k + 1) p (by omega) pn).1 z
    have ll : L2.length + P2.length = (pX c (k + 1) p).2.2.length := by rw [← eL, List.length_append, tk0_len]
    have ss := sS_n hP.1.1 hP.1.2
    have bb : S.length ≤ (en P2 ++ S).length := by rw [List.length_append]; omega
    have hh : hos (h2.1 157) ((en P2 ++ S).length - S.length) S.length = false := by
      refine hos_f (fun i i0 i1 => ?_)
      obtain ⟨x, x0, x1⟩ := SR_en M2.2.2.2.2.2.1 i i0 (by rw [List.length_append, en_len] at i1; omega)
      have := hP.2 x x0
      rw [x1]; omega
    intro w2 hw
    have X : dh_wp dh_sh (dh_wpM (d + 4)) (dh_bl 174) Q 6 [some (.inr (.inr (some 147))), some (.inl S.length), some (.inl (-1))] [] h2 := by
      simp only [u174_6, bk174_6, sh147, wb_ldi, wb_ldl, wb_ldr, wb_iinc, wb_sti, wb_str, wb_stl, wb_ci, wb_cl, wb_i0, wb_i1, wb_i2, wb_i5, wb_i6, wb_i7, wb_i8, wb_i9, wb_i3, wb_i4, wb_l0, wb_l1, wb_l2, wb_l5, wb_l6, wb_l3, wb_l4, wb_s0, wb_s1, wb_s2, wb_i2l, wb_l2i, wb_i2b, wb_lcmp, wb_dupi, wb_dupr, wb_popi, wb_popr, wb_ic0, wb_if0, wb_ic1, wb_if1, wb_ic2, wb_if2, wb_ic3, wb_if3, wb_ic4, wb_if4, wb_ic5, wb_if5, wb_nu0, wb_nu1, wb_nn0, wb_nn1, wb_go, wb_fall, wb_ri, wb_rl, wb_rr, wb_rz, wb_rv, wb_gi, wb_gr, wb_pi, aK_s, aN_s, aZ_s, k18_1, k18_8, k34_3, k34_4, k1_1, k2_2, k128_1, k128_2, k128_8, k567_5, k567_6, k567_7, wb_iald, wb_bald, wb_lald, wb_aald, wb_iast, wb_last, wb_bast, wb_len, wb_null, wb_sw, wb_cs1, wb_cs2, wb_cs3, wb_cs4, wb_cs5, wb_cs6, wb_cs7, wb_cv0, wb_cv1, wb_cv2, wb_cv3, wb_cv4, wb_cv5, wb_cv6, wb_m0, wb_m1, wb_m2, wb_m3, ws_0, ws_i, ws_l, ws_r, kI_s, kL_s, kR_s, lg_0, lg_s, ls_0, ls_s, ik_i, ik_l, ik_r, ik_n, kl_0, kl_s, dh_st1, dh_st2, Option.toList_some, Option.toList_none, List.cons_append, List.nil_append, Bool.false_eq_true, if_false, if_true, true_and, and_true, true_or, or_true, Nat.zero_le, Nat.reduceAdd, Nat.reduceLeDiff, ↓reduceIte, Int.reduceEq, Int.reduceLT, Int.reduceLE, Int.reduceNe, Int.reduceToNat, Int.reduceNeg, Nat.reduceEqDiff, ui_s, ui_2, ul_1, ul_s, wp_ite, sw_c, sw_n, oi_0, oi_1, oi_m1, lc_eq, lc_ne, b01_eq0, b01_ne0, b01_ok, b01_01, z_01, o_01, ne_eq, not_true, not_false_eq_true, imp_self, implies_true, false_implies, and_false, false_and, false_or, or_false, Int.add_zero]
      refine y_close (Or.inr rfl) (fun x hx => ?_) (fun e => hS (by rcases e with e | e <;> omega)) M2 (by omega) (fun h3 M3 g3 => ?_)
      · have := hP.2 x hx
        by_cases x4 : 4 ≤ x
        · exact Or.inl ⟨x4, this.2⟩
        · exact Or.inr ⟨by omega, by omega⟩
      · ((try simp only [wb_ldi, wb_ldl, wb_ldr, wb_iinc, wb_sti, wb_str, wb_stl, wb_ci, wb_cl, wb_i0, wb_i1, wb_i2, wb_i5, wb_i6, wb_i7, wb_i8, wb_i9, wb_i3, wb_i4, wb_l0, wb_l1, wb_l2, wb_l5, wb_l6, wb_l3, wb_l4, wb_s0, wb_s1, wb_s2, wb_i2l, wb_l2i, wb_i2b, wb_lcmp, wb_dupi, wb_dupr, wb_popi, wb_popr, wb_ic0, wb_if0, wb_ic1, wb_if1, wb_ic2, wb_if2, wb_ic3, wb_if3, wb_ic4, wb_if4, wb_ic5, wb_if5, wb_nu0, wb_nu1, wb_nn0, wb_nn1, wb_go, wb_fall, wb_ri, wb_rl, wb_rr, wb_rz, wb_rv, wb_gi, wb_gr, wb_pi, aK_s, aN_s, aZ_s, k18_1, k18_8, k34_3, k34_4, k1_1, k2_2, k128_1, k128_2, k128_8, k567_5, k567_6, k567_7, wb_iald, wb_bald, wb_lald, wb_aald, wb_iast, wb_last, wb_bast, wb_len, wb_null, wb_sw, wb_cs1, wb_cs2, wb_cs3, wb_cs4, wb_cs5, wb_cs6, wb_cs7, wb_cv0, wb_cv1, wb_cv2, wb_cv3, wb_cv4, wb_cv5, wb_cv6, wb_m0, wb_m1, wb_m2, wb_m3, ws_0, ws_i, ws_l, ws_r, kI_s, kL_s, kR_s, lg_0, lg_s, ls_0, ls_s, ik_i, ik_l, ik_r, ik_n, kl_0, kl_s, dh_st1, dh_st2, Option.toList_some, Option.toList_none, List.cons_append, List.nil_append, Bool.false_eq_true, if_false, if_true, true_and, and_true, true_or, or_true, Nat.zero_le, Nat.reduceAdd, Nat.reduceLeDiff, ↓reduceIte, Int.reduceEq, Int.reduceLT, Int.reduceLE, Int.reduceNe, Int.reduceToNat, Int.reduceNeg, Nat.reduceEqDiff, ui_s, ui_2, ul_1, ul_s, wp_ite, sw_c, sw_n, oi_0, oi_1, oi_m1, lc_eq, lc_ne, b01_eq0, b01_ne0, b01_ok, b01_01, z_01, o_01, ne_eq, not_true, not_false_eq_true, imp_self, implies_true, false_implies, and_false, false_and, false_or, or_false, Int.add_zero]); try simp (discharger := omega) only [↓if_pos, ↓if_neg, and_iff_right, dh_wr_id, ui_s, ui_p, ui_k, ui_2, ul_1, ul_s, ul_p, ul_k, true_and, and_true, and_false, false_and, if_false, if_true, not_true, not_false_eq_true, imp_self, implies_true, false_implies])
        refine hQ2 z _ ?_ ?_
        · rw [← ll, ← Nat.add_assoc]; exact M3
        · rw [← eL]; exact gQ_cat g2 g3
    have Y : dh_wp dh_sh (dh_wpM (d + 4)) (dh_bl 174) Q 5 [some (.inr (.inr (some 147))), some (.inl S.length), some (.inl (-1))] [] h2 := by
      ((try simp only [u174_5, bk174_5, y_hos M2 bb, hh, sh147, wb_ldi, wb_ldl, wb_ldr, wb_iinc, wb_sti, wb_str, wb_stl, wb_ci, wb_cl, wb_i0, wb_i1, wb_i2, wb_i5, wb_i6, wb_i7, wb_i8, wb_i9, wb_i3, wb_i4, wb_l0, wb_l1, wb_l2, wb_l5, wb_l6, wb_l3, wb_l4, wb_s0, wb_s1, wb_s2, wb_i2l, wb_l2i, wb_i2b, wb_lcmp, wb_dupi, wb_dupr, wb_popi, wb_popr, wb_ic0, wb_if0, wb_ic1, wb_if1, wb_ic2, wb_if2, wb_ic3, wb_if3, wb_ic4, wb_if4, wb_ic5, wb_if5, wb_nu0, wb_nu1, wb_nn0, wb_nn1, wb_go, wb_fall, wb_ri, wb_rl, wb_rr, wb_rz, wb_rv, wb_gi, wb_gr, wb_pi, aK_s, aN_s, aZ_s, k18_1, k18_8, k34_3, k34_4, k1_1, k2_2, k128_1, k128_2, k128_8, k567_5, k567_6, k567_7, wb_iald, wb_bald, wb_lald, wb_aald, wb_iast, wb_last, wb_bast, wb_len, wb_null, wb_sw, wb_cs1, wb_cs2, wb_cs3, wb_cs4, wb_cs5, wb_cs6, wb_cs7, wb_cv0, wb_cv1, wb_cv2, wb_cv3, wb_cv4, wb_cv5, wb_cv6, wb_m0, wb_m1, wb_m2, wb_m3, ws_0, ws_i, ws_l, ws_r, kI_s, kL_s, kR_s, lg_0, lg_s, ls_0, ls_s, ik_i, ik_l, ik_r, ik_n, kl_0, kl_s, dh_st1, dh_st2, Option.toList_some, Option.toList_none, List.cons_append, List.nil_append, Bool.false_eq_true, if_false, if_true, true_and, and_true, true_or, or_true, Nat.zero_le, Nat.reduceAdd, Nat.reduceLeDiff, ↓reduceIte, Int.reduceEq, Int.reduceLT, Int.reduceLE, Int.reduceNe, Int.reduceToNat, Int.reduceNeg, Nat.reduceEqDiff, ui_s, ui_2, ul_1, ul_s, wp_ite, sw_c, sw_n, oi_0, oi_1, oi_m1, lc_eq, lc_ne, b01_eq0, b01_ne0, b01_ok, b01_01, z_01, o_01, ne_eq, not_true, not_false_eq_true, imp_self, implies_true, false_implies, and_false, false_and, false_or, or_false, Int.add_zero]); try simp (discharger := omega) only [sh147, ↓if_pos, ↓if_neg, and_iff_right, dh_wr_id, ui_s, ui_p, ui_k, ui_2, ul_1, ul_s, ul_p, ul_k, true_and, and_true, and_false, false_and, if_false, if_true, not_true, not_false_eq_true, imp_self, implies_true, false_implies])
      exact X
    rw [u174_1]
    by_cases y : c (pX c (k + 1) p).2.1 = 93
    · ((try simp only [bk174_1, u174_4, bk174_4, y_here M2.1 (show n ≤ 260 by omega) M2.2.1 (show 0 ≤ (pX c (k + 1) p).2.1 by omega), y_sumSign, ss, y, y_hos M2 bb, hh, sh147, hw, wb_ldi, wb_ldl, wb_ldr, wb_iinc, wb_sti, wb_str, wb_stl, wb_ci, wb_cl, wb_i0, wb_i1, wb_i2, wb_i5, wb_i6, wb_i7, wb_i8, wb_i9, wb_i3, wb_i4, wb_l0, wb_l1, wb_l2, wb_l5, wb_l6, wb_l3, wb_l4, wb_s0, wb_s1, wb_s2, wb_i2l, wb_l2i, wb_i2b, wb_lcmp, wb_dupi, wb_dupr, wb_popi, wb_popr, wb_ic0, wb_if0, wb_ic1, wb_if1, wb_ic2, wb_if2, wb_ic3, wb_if3, wb_ic4, wb_if4, wb_ic5, wb_if5, wb_nu0, wb_nu1, wb_nn0, wb_nn1, wb_go, wb_fall, wb_ri, wb_rl, wb_rr, wb_rz, wb_rv, wb_gi, wb_gr, wb_pi, aK_s, aN_s, aZ_s, k18_1, k18_8, k34_3, k34_4, k1_1, k2_2, k128_1, k128_2, k128_8, k567_5, k567_6, k567_7, wb_iald, wb_bald, wb_lald, wb_aald, wb_iast, wb_last, wb_bast, wb_len, wb_null, wb_sw, wb_cs1, wb_cs2, wb_cs3, wb_cs4, wb_cs5, wb_cs6, wb_cs7, wb_cv0, wb_cv1, wb_cv2, wb_cv3, wb_cv4, wb_cv5, wb_cv6, wb_m0, wb_m1, wb_m2, wb_m3, ws_0, ws_i, ws_l, ws_r, kI_s, kL_s, kR_s, lg_0, lg_s, ls_0, ls_s, ik_i, ik_l, ik_r, ik_n, kl_0, kl_s, dh_st1, dh_st2, Option.toList_some, Option.toList_none, List.cons_append, List.nil_append, Bool.false_eq_true, if_false, if_true, true_and, and_true, true_or, or_true, Nat.zero_le, Nat.reduceAdd, Nat.reduceLeDiff, ↓reduceIte, Int.reduceEq, Int.reduceLT, Int.reduceLE, Int.reduceNe, Int.reduceToNat, Int.reduceNeg, Nat.reduceEqDiff, ui_s, ui_2, ul_1, ul_s, wp_ite, sw_c, sw_n, oi_0, oi_1, oi_m1, lc_eq, lc_ne, b01_eq0, b01_ne0, b01_ok, b01_01, z_01, o_01, ne_eq, not_true, not_false_eq_true, imp_self, implies_true, false_implies, and_false, false_and, false_or, or_false, Int.add_zero]); try simp (discharger := omega) only [sh147, hw, ↓if_pos, ↓if_neg, and_iff_right, dh_wr_id, ui_s, ui_p, ui_k, ui_2, ul_1, ul_s, ul_p, ul_k, true_and, and_true, and_false, false_and, if_false, if_true, not_true, not_false_eq_true, imp_self, implies_true, false_implies])
      exact Y
    · ((try simp only [bk174_1, u174_4, bk174_4, y_here M2.1 (show n ≤ 260 by omega) M2.2.1 (show 0 ≤ (pX c (k + 1) p).2.1 by omega), y_sumSign, ss, sh147, hw, y, wb_ldi, wb_ldl, wb_ldr, wb_iinc, wb_sti, wb_str, wb_stl, wb_ci, wb_cl, wb_i0, wb_i1, wb_i2, wb_i5, wb_i6, wb_i7, wb_i8, wb_i9, wb_i3, wb_i4, wb_l0, wb_l1, wb_l2, wb_l5, wb_l6, wb_l3, wb_l4, wb_s0, wb_s1, wb_s2, wb_i2l, wb_l2i, wb_i2b, wb_lcmp, wb_dupi, wb_dupr, wb_popi, wb_popr, wb_ic0, wb_if0, wb_ic1, wb_if1, wb_ic2, wb_if2, wb_ic3, wb_if3, wb_ic4, wb_if4, wb_ic5, wb_if5, wb_nu0, wb_nu1, wb_nn0, wb_nn1, wb_go, wb_fall, wb_ri, wb_rl, wb_rr, wb_rz, wb_rv, wb_gi, wb_gr, wb_pi, aK_s, aN_s, aZ_s, k18_1, k18_8, k34_3, k34_4, k1_1, k2_2, k128_1, k128_2, k128_8, k567_5, k567_6, k567_7, wb_iald, wb_bald, wb_lald, wb_aald, wb_iast, wb_last, wb_bast, wb_len, wb_null, wb_sw, wb_cs1, wb_cs2, wb_cs3, wb_cs4, wb_cs5, wb_cs6, wb_cs7, wb_cv0, wb_cv1, wb_cv2, wb_cv3, wb_cv4, wb_cv5, wb_cv6, wb_m0, wb_m1, wb_m2, wb_m3, ws_0, ws_i, ws_l, ws_r, kI_s, kL_s, kR_s, lg_0, lg_s, ls_0, ls_s, ik_i, ik_l, ik_r, ik_n, kl_0, kl_s, dh_st1, dh_st2, Option.toList_some, Option.toList_none, List.cons_append, List.nil_append, Bool.false_eq_true, if_false, if_true, true_and, and_true, true_or, or_true, Nat.zero_le, Nat.reduceAdd, Nat.reduceLeDiff, ↓reduceIte, Int.reduceEq, Int.reduceLT, Int.reduceLE, Int.reduceNe, Int.reduceToNat, Int.reduceNeg, Nat.reduceEqDiff, ui_s, ui_2, ul_1, ul_s, wp_ite, sw_c, sw_n, oi_0, oi_1, oi_m1, lc_eq, lc_ne, b01_eq0, b01_ne0, b01_ok, b01_01, z_01, o_01, ne_eq, not_true, not_false_eq_true, imp_self, implies_true, false_implies, and_false, false_and, false_or, or_false, Int.add_zero]); try simp (discharger := omega) only [sh147, hw, y, ↓if_pos, ↓if_neg, and_iff_right, dh_wr_id, ui_s, ui_p, ui_k, ui_2, ul_1, ul_s, ul_p, ul_k, true_and, and_true, and_false, false_and, if_false, if_true, not_true, not_false_eq_true, imp_self, implies_true, false_implies])
      exact Y
end ME
