theorem dh_okm_all : ∀ k, k < 256 → dh_okm k = true := by
  intro k hk
  by_cases q0 : k < 64
  · exact dh_rg dh_okm0 (by omega) (by omega)
  by_cases q1 : k < 128
  · exact dh_rg dh_okm1 (by omega) (by omega)
  by_cases q2 : k < 192
  · exact dh_rg dh_okm2 (by omega) (by omega)
  exact dh_rg dh_okm3 (by omega) (by omega)
theorem dh_law_own : (dh_mt[256]?).map (fun mi => mi.2.2.2.2.2.2.1) = some 12 := by decide +kernel
theorem dh_mt_len : dh_mt.length = 257 := by decide +kernel
theorem dh_mt_lt {mn : Nat} {mi : dh_MI} (hm : dh_mt[mn]? = some mi) (ho : mi.2.2.2.2.2.2.1 ≠ 12) : mn < 256 := by
  have h1 : mn < dh_mt.length := (List.getElem?_eq_some_iff.mp hm).1
  rw [dh_mt_len] at h1
  by_cases e : mn = 256
  · subst e
    have h2 := dh_law_own
    rw [hm] at h2
    exact absurd (Option.some.inj h2) ho
  · omega
/-- what the tables say of a method -/
theorem dh_mfacts {mn : Nat} {mi : dh_MI} (hm : dh_mt[mn]? = some mi) (ho : mi.2.2.2.2.2.2.1 ≠ 12) :
    Cond.initialized mi.1.cls ∈ dh_B ∧ (if mi.2.2.2.2.2.1 = true then Cond.static mi.1 ∈ dh_B else Cond.instanceMethod mi.1 ∈ dh_B ∧ Cond.selects mi.1.cls mi.1 mi.1 ∈ dh_B ∧ mi.2.2.2.2.2.2.1 < 12) ∧ (mi.1.cls ≠ "java/lang/invoke/MethodHandle" ∧ mi.1.cls ≠ "java/lang/invoke/VarHandle") ∧ (parseMethodDescriptor mi.1.desc).map (fun d => d.parameters.length) = some mi.2.2.2.2.1 ∧ Jvm.plainName mi.1.cls = true ∧ mi.2.2.1 ≤ 30 ∧ dh_cn mi.2.2.2.2.2.2.1 = mi.1.cls ∧ dh_rtc mi.2.2.2.2.2.2.2.2 mi.2.2.2.1 = true ∧ mi.2.2.2.2.2.2.2.1[0]? = some 0 := by
  have h := dh_okm_all mn (dh_mt_lt hm ho)
  unfold dh_okm at h
  rw [hm] at h
  obtain ⟨y, cc, nL, ret, n, st, own, bp, rtc⟩ := mi
  cases hw : dh_wm[mn]? with
  | none => rw [hw] at h; cases h
  | some q =>
    obtain ⟨a, b, c, d⟩ := q
    rw [hw] at h
    simp only [Bool.and_eq_true, decide_eq_true_eq] at h
    obtain ⟨-, h1, h2, h3, h4, h5, h6, h7, h8, h9⟩ := h
    refine ⟨dh_has_in h1, ?_, h3, h4, h5, h6, h7, h8, h9⟩
    cases st with
    | true => exact dh_has_in (by simpa using h2)
    | false =>
      simp only [Bool.false_eq_true, if_false, Bool.and_eq_true, decide_eq_true_eq] at h2 ⊢
      exact ⟨dh_has_in h2.1, dh_has_in h2.2.1, h2.2.2⟩
def dh_rm (d : Nat) : Room := { frames := d, cells := 0, slots := 0, locals := 60 * d }
def dh_Pc (adr : Nat → Nat) (ta : Nat → ClassId) (D : va_G) (ra : List Value) (ri : Nat → Nat → Int32) (rl : Nat → Nat → Int64) (sz : Nat) : Array Value → State → Prop :=
  va_Pc ra (fun U => U.heap.size = sz ∧ va_P D vwCl (dh_ws adr ta ri rl) U.heap ∧ va_K D vwCl (dh_tys ta) U ∧ va_D (fun _ => True) (dh_ws adr ta ri rl) ∧ dh_NW U)
def dh_Qc (adr : Nat → Nat) (ta : Nat → ClassId) (D : va_G) (ri : Nat → Nat → Int32) (rl : Nat → Nat → Int64) (sz : Nat) (Qv : Option dh_V → dh_AH → Prop) : Array Value → State → Outcome → State → Prop := fun _ st oc t =>
  (∃ (r : Option Value) (v : Option dh_V) (ri' : Nat → Nat → Int32) (rl' : Nat → Nat → Int64), oc = .returned r ∧ dh_ro adr r v ∧ Qv v (dh_ab ri' rl') ∧ va_P D vwCl (dh_ws adr ta ri' rl') t.heap ∧ ∀ q, dh_sh q = none → ri' q = ri q) ∧ va_F (va_A (dh_ws adr ta ri rl) sz) st t
/-- the machine's contract of a method, out of what the abstract machine says -/
def dh_Mt (l : Launch) (d mn : Nat) (as : List dh_V) (h : dh_AH) (Qv : Option dh_V → dh_AH → Prop) : Prop :=
  ∀ mi, dh_mt[mn]? = some mi → mi.2.2.2.2.2.2.1 ≠ 12 → ∀ (adr : Nat → Nat) (ta : Nat → ClassId) (D : va_G) (ra : List Value) (ri : Nat → Nat → Int32) (rl : Nat → Nat → Int64) (sz : Nat), dh_rs adr ra as → h = dh_ab ri rl →
    Met l mi.1 (dh_cw mi :: dh_B) (dh_rm d) (dh_Pc adr ta D ra ri rl sz) (dh_Qc adr ta D ri rl sz Qv) 0 0 (va_A (dh_ws adr ta ri rl) sz)
theorem dh_Pc_blind {adr : Nat → Nat} {ta : Nat → ClassId} {D : va_G} {ra : List Value} {ri : Nat → Nat → Int32} {rl : Nat → Nat → Int64} {sz : Nat} : FrameBlind (dh_Pc adr ta D ra ri rl sz) := by
  intro a U g mk q
  obtain ⟨q0, q1, qP, qK, qD, qN⟩ := q
  exact ⟨q0, q1, qP, va_K.moved (u := U) (U := U.calling g mk a) (Vm.Alike.refl U.vm) qK, qD, dh_NW.same (u := U) (U := U.calling g mk a) rfl qN⟩
theorem dh_G {mi : dh_MI} {mn : Nat} (hm : dh_mt[mn]? = some mi) (ho : mi.2.2.2.2.2.2.1 ≠ 12) : GoodIn dh_B (dh_cw mi :: dh_B) := by
  intro w hw
  rcases List.mem_cons.mp hw with rfl | hw
  · exact dh_goodIn _ (dh_cw_in (List.mem_of_getElem? hm) ho)
  · exact dh_goodIn _ hw
theorem dh_cn_vw {ci : Nat} (h : ci < 12) : (vwCl.getD ci (RX0, TX0, 2)).1 = dh_cn ci := by
  match ci, h with
  | 0, _ => rfl
  | 1, _ => rfl
  | 2, _ => rfl
  | 3, _ => rfl
  | 4, _ => rfl
  | 5, _ => rfl
  | 6, _ => rfl
  | 7, _ => rfl
  | 8, _ => rfl
  | 9, _ => rfl
  | 10, _ => rfl
  | 11, _ => rfl
section DHC
variable {p : Program} {l : Launch} {e : Env} {R : Room} {s : State} {m : MethodId} {args : Array Value} {below : List Frame} {meth : Method} {c : Code} {Q : State → Prop}
variable {cc : ByteArray} {nL own : Nat} {adr : Nat → Nat} {ta : Nat → ClassId} {D : va_G} {A : Nat → Prop} {H0 : Heap} {ri0 : Nat → Nat → Int32} {sh : Nat → Option (Nat × Nat × Nat × Nat)} {kc ks : Nat}
theorem dh_s_run {Qv : Option dh_V → dh_AH → Prop} {pc : Nat} {ls : dh_LS} {st : List dh_V} {rls : Array Slot} {rst rest : List Value} {H : Heap} {locs : List Loc} {ri : Nat → Nat → Int32} {rl : Nat → Nat → Int64} {a : Array Value}
    (hr : va_Run p l e R s m args below meth c H locs kc ks 0 0 (F0 m pc rls rst) rest (dh_Qc adr ta D ri rl H.size Qv a) (va_A (dh_ws adr ta ri rl) H.size))
    (hl : dh_rl adr rls nL ls) (hs : dh_rs adr rest st) (hD : va_D A (dh_ws adr ta ri rl)) (hS : va_S A H0 H locs) (hA : ∀ q, H0.size ≤ q → A q) (hout : ∀ q, dh_sh q = none → ri q = ri0 q)
    (hk : ∀ v h, Qv v h → dh_OK p l e R s m args below meth c Q adr ta D A H0 ri0 nL kc ks (pc + 3) ls (v.toList ++ st) h) : W p l e R s m args below meth c H locs kc ks Q (F0 m pc rls rst) := by
  intro T hT X
  obtain ⟨v, st₀, t, T', L, h0, X', hL, e1, e2, ⟨⟨r, w, ri', rl', hv, hro, hq, hP', hout'⟩, hz, hkk⟩, st'⟩ := hr T hT X
  cases hv
  have hAA : ∀ q, va_A (dh_ws adr ta ri rl) H.size q → A q := by
    intro q hq
    rcases hq with ⟨i, x, hx⟩ | hq
    · exact hD.2 i _ hx
    · exact hA q (Nat.le_trans hS.1 hq)
  have hrs : dh_rs adr (v.toList ++ rest) (w.toList ++ st) := by
    match v, w, hro with
    | none, none, _ => exact hs
    | some x, some y, hro => exact ⟨hro, hs⟩
  have hS' : va_S A H0 T'.heap (locs ++ L) := by
    refine ⟨Nat.le_trans hS.1 (by rw [e1, ← h0]; exact hz), fun q h1 h2 => ?_, fun q hq => ?_⟩
    · rw [e1, hkk q (by rw [h0]; exact Nat.lt_of_lt_of_le h1 hS.1) (fun z => h2 (hAA q z)), h0]
      exact hS.2.1 q h1 h2
    · rcases List.mem_append.mp hq with h | h
      · exact hS.2.2 q h
      · exact hAA _ (hL q h)
  obtain ⟨t2, a1, b1⟩ := hk w _ hq rls (v.toList ++ rest) T'.heap (locs ++ L) hl hrs ⟨ri', rl', rfl, by rw [e1]; exact hP', dh_D_any hD, hS', fun q hq => (hout' q hq).trans (hout q hq)⟩ T' rfl X'
  exact ⟨t2, st' t2 a1, b1⟩
theorem dh_mf_ok {own idx : Nat} {q : Nat × Nat × Nat × Nat × Nat} (hf : dh_mf own idx = some q) : q.1 = own ∧ q.2.1 = idx ∧ dh_okl q = true := by
  have he := List.all_eq_true.mp dh_okl_all _ (List.mem_of_find?_eq_some hf)
  have h0 := List.find?_some hf
  simp only [Bool.and_eq_true, beq_iff_eq] at h0
  exact ⟨h0.1, h0.2, he⟩
set_option maxHeartbeats 2000000 in
theorem dh_s_virt (F : dh_Fx p s m args c cc nL own D ta A adr H0 ri0 sh) {d : Nat} (hA : ∀ q, H0.size ≤ q → A q) (hRm : d + 1 ≤ R.frames ∧ 60 * d + 60 ≤ R.locals) (hkc : kc ≤ R.cells ∧ ks ≤ R.slots) {C : dh_C} (hC : ∀ mn as h Qv, C mn as h Qv → dh_Mt l d mn as h Qv) {pc idx : Nat} {q : Nat × Nat × Nat × Nat × Nat} {mi : dh_MI} {ls : dh_LS} {st : List dh_V} {h : dh_AH} (hf : dh_mf own idx = some q) (hmi : dh_mt[q.2.2.1]? = some mi) (ho : mi.2.2.2.2.2.2.1 ≠ 12) (hst : mi.2.2.2.2.2.1 = false) {p0 : Nat} {as : List dh_V} (hd : decode cc pc = .ok (.invokevirtual idx, 3)) (ht : (st.take (mi.2.2.2.2.1 + 1)).reverse = .inr (.inr (some p0)) :: as) (hsp : sh p0 = some (0, mi.2.2.2.2.2.2.1, 0, 0)) (hlen : mi.2.2.2.2.1 + 1 ≤ st.length) (hwd : dh_wsum (st.drop (mi.2.2.2.2.1 + 1)) ≤ 8)
    (hk : C q.2.2.1 (.inr (.inr (some p0)) :: as) h (fun v h' => dh_OK p l e R s m args below meth c Q adr ta D A H0 ri0 nL kc ks (pc + 3) ls (v.toList ++ st.drop (mi.2.2.2.2.1 + 1)) h')) : dh_OK p l e R s m args below meth c Q adr ta D A H0 ri0 nL kc ks pc ls st h := by
  intro rls rst H locs hl hs hR
  obtain ⟨ri, rl, rfl, hP, hD, hS, hout⟩ := hR
  obtain ⟨hx, hb, hml, hown, hts, hN, hK, hsh, hscr⟩ := F
  obtain ⟨e1, e2, hq⟩ := dh_mf_ok hf
  subst e1 e2
  simp only [dh_okl, Bool.and_eq_true, decide_eq_true_eq] at hq
  obtain ⟨hw, -⟩ := hq
  obtain ⟨hini, hkd, hhd, hpar, -, hnL, -, -, -⟩ := dh_mfacts hmi ho
  rw [hst] at hkd
  simp only [Bool.false_eq_true, if_false] at hkd
  obtain ⟨hins, hsel, hci⟩ := hkd
  have h1 := dh_rs_rev (dh_rs_take (mi.2.2.2.2.1 + 1) hs)
  rw [ht] at h1
  have h1' := h1
  obtain ⟨As, eA, hAs⟩ := dh_rs_r h1
  rw [eA] at h1'
  have hstk : rst = As.reverse ++ .ref (adr p0) :: rst.drop (mi.2.2.2.2.1 + 1) := by
    have h2 := congrArg List.reverse eA
    rw [List.reverse_reverse, List.reverse_cons] at h2
    have h3 := List.take_append_drop (mi.2.2.2.2.1 + 1) rst
    rw [h2] at h3
    rw [List.append_assoc] at h3
    exact h3.symm
  have hlA : As.length = mi.2.2.2.2.1 := by
    have h2 := congrArg List.length eA
    have h3 := dh_rs_len hs
    rw [List.length_reverse, List.length_take, List.length_cons] at h2
    omega
  have hs0 := hsh p0 _ hsp (by show (0 : Nat) ≠ 8; decide)
  have hws := dh_ws_at (adr := adr) (ta := ta) (ri := ri) (rl := rl) hs0
  have hM := hC _ _ _ _ hk mi hmi ho adr ta D (.ref (adr p0) :: As) ri rl H.size h1' rfl
  have hcn : (vwCl.getD mi.2.2.2.2.2.2.1 (RX0, TX0, 2)).1 = mi.1.cls := by
    obtain ⟨-, -, -, -, -, -, hc, -, -⟩ := dh_mfacts hmi ho
    rw [← hc]
    exact dh_cn_vw hci
  have hrecv := va_recv hK hP (dh_vw hci) hws
  rw [hcn] at hrecv
  have hpre : PreV s H mi.1.cls (adr p0) (dh_Pc adr ta D (.ref (adr p0) :: As) ri rl H.size) As := ⟨dh_Pc_blind, hrecv, fun U hU hW => ⟨rfl, by rw [hU], by rw [hU]; exact hP, va_K.moved hW.alike hK, hD.weaken (fun _ _ _ _ => trivial), hN.warm hW⟩⟩
  have hrr : (dh_rm d).frames + 1 ≤ R.frames ∧ 8 + (mi.2.2.1 + 11) + (dh_rm d).locals ≤ R.locals := by
    show d + 1 ≤ R.frames ∧ 8 + (mi.2.2.1 + 11) + 60 * d ≤ R.locals
    omega
  by_cases hn0 : q.2.2.2.1 = 0
  · have hw' : dh_lw q ∈ dh_B := by
      apply dh_has_in (i := q.2.2.2.2)
      simpa [dh_hasN, hn0] using hw
    simp only [dh_lw, hmi, if_pos hn0] at hw'
    exact dh_s_run (va_runV ⟨hx, hb, hml, hown, hts⟩ hM ⟨callB_of mi.2.2.2.2.1 hts (dh_G hmi ho) rfl rfl rfl (hts _ hini) (hts _ hw') ⟨hhd.1, hhd.2, hpar⟩ hrr, hts _ hins, hts _ hsel⟩ hpre rfl hlA hl.1 hstk (lv_room (by rw [dh_rs_sum (dh_rs_drop _ hs)]; exact hwd)) hd ⟨hkc.1, hkc.2⟩) hl (dh_rs_drop _ hs) hD hS hA hout (fun v h k => k)
  · have hw' : dh_lw q ∈ dh_N := by
      apply dh_hasN_in (i := q.2.2.2.2)
      · simpa [dh_hasN, hn0] using hw
      · simp only [dh_lw, hmi, if_neg hn0]
        rfl
    simp only [dh_lw, hmi, if_neg hn0] at hw'
    exact dh_s_run (va_runVN ⟨hx, hb, hml, hown, hts⟩ hM ⟨va_cnB mi.2.2.2.2.1 hts (dh_G hmi ho) rfl rfl rfl (hN _ hw') (hts _ hini) ⟨hhd.1, hhd.2, hpar⟩ hrr, hts _ hins, hts _ hsel⟩ hpre rfl hlA hl.1 hstk (lv_room (by rw [dh_rs_sum (dh_rs_drop _ hs)]; exact hwd)) hd ⟨hkc.1, hkc.2⟩) hl (dh_rs_drop _ hs) hD hS hA hout (fun v h k => k)
set_option maxHeartbeats 2000000 in
theorem dh_s_stat (F : dh_Fx p s m args c cc nL own D ta A adr H0 ri0 sh) {d : Nat} (hA : ∀ q, H0.size ≤ q → A q) (hRm : d + 1 ≤ R.frames ∧ 60 * d + 60 ≤ R.locals) (hkc : kc ≤ R.cells ∧ ks ≤ R.slots) {C : dh_C} (hC : ∀ mn as h Qv, C mn as h Qv → dh_Mt l d mn as h Qv) {pc idx : Nat} {q : Nat × Nat × Nat × Nat × Nat} {mi : dh_MI} {ls : dh_LS} {st : List dh_V} {h : dh_AH} (hf : dh_mf own idx = some q) (hmi : dh_mt[q.2.2.1]? = some mi) (ho : mi.2.2.2.2.2.2.1 ≠ 12) (hst : mi.2.2.2.2.2.1 = true) (hd : decode cc pc = .ok (.invokestatic idx, 3)) (hlen : mi.2.2.2.2.1 ≤ st.length) (hwd : dh_wsum (st.drop mi.2.2.2.2.1) ≤ 8)
    (hk : C q.2.2.1 (st.take mi.2.2.2.2.1).reverse h (fun v h' => dh_OK p l e R s m args below meth c Q adr ta D A H0 ri0 nL kc ks (pc + 3) ls (v.toList ++ st.drop mi.2.2.2.2.1) h')) : dh_OK p l e R s m args below meth c Q adr ta D A H0 ri0 nL kc ks pc ls st h := by
  intro rls rst H locs hl hs hR
  obtain ⟨ri, rl, rfl, hP, hD, hS, hout⟩ := hR
  obtain ⟨hx, hb, hml, hown, hts, hN, hK, hsh, hscr⟩ := F
  obtain ⟨e1, e2, hq⟩ := dh_mf_ok hf
  subst e1 e2
  simp only [dh_okl, Bool.and_eq_true, decide_eq_true_eq] at hq
  obtain ⟨hw, -⟩ := hq
  obtain ⟨hini, hkd, hhd, hpar, -, hnL, -, -, -⟩ := dh_mfacts hmi ho
  rw [hst] at hkd
  simp only [if_true] at hkd
  have h1 := dh_rs_rev (dh_rs_take mi.2.2.2.2.1 hs)
  obtain ⟨As, eA⟩ : ∃ As, As = (rst.take mi.2.2.2.2.1).reverse := ⟨_, rfl⟩
  rw [← eA] at h1
  have hstk : rst = As.reverse ++ rst.drop mi.2.2.2.2.1 := by
    rw [eA, List.reverse_reverse, List.take_append_drop]
  have hlA : As.length = mi.2.2.2.2.1 := by
    have h3 := dh_rs_len hs
    rw [eA, List.length_reverse, List.length_take]
    omega
  have hM := hC _ _ _ _ hk mi hmi ho adr ta D As ri rl H.size h1 rfl
  have hpre : PreS s H (dh_Pc adr ta D As ri rl H.size) As := ⟨dh_Pc_blind, fun U hU hW => ⟨rfl, by rw [hU], by rw [hU]; exact hP, va_K.moved hW.alike hK, hD.weaken (fun _ _ _ _ => trivial), hN.warm hW⟩⟩
  have hrr : (dh_rm d).frames + 1 ≤ R.frames ∧ 8 + (mi.2.2.1 + 11) + (dh_rm d).locals ≤ R.locals := by
    show d + 1 ≤ R.frames ∧ 8 + (mi.2.2.1 + 11) + 60 * d ≤ R.locals
    omega
  by_cases hn0 : q.2.2.2.1 = 0
  · have hw' : dh_lw q ∈ dh_B := by
      apply dh_has_in (i := q.2.2.2.2)
      simpa [dh_hasN, hn0] using hw
    simp only [dh_lw, hmi, if_pos hn0] at hw'
    exact dh_s_run (va_runS ⟨hx, hb, hml, hown, hts⟩ hM ⟨callB_of mi.2.2.2.2.1 hts (dh_G hmi ho) rfl rfl rfl (hts _ hini) (hts _ hw') ⟨hhd.1, hhd.2, hpar⟩ hrr, hts _ hkd⟩ hpre rfl hlA hl.1 hstk (lv_room (by rw [dh_rs_sum (dh_rs_drop _ hs)]; exact hwd)) hd ⟨hkc.1, hkc.2⟩) hl (dh_rs_drop _ hs) hD hS hA hout (fun v h k => k)
  · have hw' : dh_lw q ∈ dh_N := by
      apply dh_hasN_in (i := q.2.2.2.2)
      · simpa [dh_hasN, hn0] using hw
      · simp only [dh_lw, hmi, if_neg hn0]
        rfl
    simp only [dh_lw, hmi, if_neg hn0] at hw'
    exact dh_s_run (va_runSN ⟨hx, hb, hml, hown, hts⟩ hM ⟨va_cnB mi.2.2.2.2.1 hts (dh_G hmi ho) rfl rfl rfl (hN _ hw') (hts _ hini) ⟨hhd.1, hhd.2, hpar⟩ hrr, hts _ hkd, trivial⟩ hpre rfl hlA hl.1 hstk (lv_room (by rw [dh_rs_sum (dh_rs_drop _ hs)]; exact hwd)) hd ⟨hkc.1, hkc.2⟩) hl (dh_rs_drop _ hs) hD hS hA hout (fun v h k => k)
theorem dh_hf_ok {own idx : Nat} {q : Nat × Nat × Nat × Nat} (hf : dh_hf own idx = some q) : q.1 = own ∧ q.2.1 = idx ∧ dh_hw own idx q.2.2.1 ∈ dh_B := by
  have he := List.all_eq_true.mp dh_okh_all _ (List.mem_of_find?_eq_some hf)
  have h0 := List.find?_some hf
  simp only [Bool.and_eq_true, beq_iff_eq] at h0
  obtain ⟨rfl, rfl⟩ := h0
  exact ⟨rfl, rfl, dh_has_in he⟩
theorem dh_yf_ok {own idx : Nat} {q : Nat × Nat × Nat} (hf : dh_yf own idx = some q) : Cond.methodLink (dh_cn own) idx arraycopyName ∈ dh_B := by
  have he := List.all_eq_true.mp dh_oky_all _ (List.mem_of_find?_eq_some hf)
  have h0 := List.find?_some hf
  simp only [Bool.and_eq_true, beq_iff_eq] at h0
  obtain ⟨rfl, rfl⟩ := h0
  exact dh_has_in he
theorem dh_s_mmax (F : dh_Fx p s m args c cc nL own D ta A adr H0 ri0 sh) {d : Nat} (hRm : d + 1 ≤ R.frames ∧ 60 * d + 60 ≤ R.locals) (hkc : kc ≤ R.cells ∧ ks ≤ R.slots) {pc idx w0 : Nat} {q : Nat × Nat × Nat × Nat} {ls : dh_LS} {st : List dh_V} {h : dh_AH} {x y : Int} (hf : dh_hf own idx = some q) (h0 : q.2.2.1 = 0) (hd : decode cc pc = .ok (.invokestatic idx, 3)) (hwd : dh_wsum st ≤ 8) (hk : dh_OK p l e R s m args below meth c Q adr ta D A H0 ri0 nL kc ks (pc + 3) ls (.inl (if x < y then y else x) :: st) h) : dh_OK p l e R s m args below meth c Q adr ta D A H0 ri0 nL kc ks pc ls (.inl y :: .inl x :: st) h := by
  intro rls rst H locs hl hs hR
  obtain ⟨n2, xs, rfl, e2, hs_2⟩ := dh_rs_i hs
  clear hs
  have hs := hs_2
  clear hs_2
  obtain ⟨n1, xs, rfl, e1, hs_3⟩ := dh_rs_i hs
  clear hs
  have hs := hs_3
  clear hs_3
  subst e1 e2
  obtain ⟨-, -, hw⟩ := dh_hf_ok hf
  rw [h0] at hw
  have hsum := dh_rs_sum hs
  exact va_mmax F.1 F.2.1 (F.2.2.1.trans hl.1.symm) F.2.2.2.1 (F.2.2.2.2.1 _ hw) (F.2.2.2.2.1 _ dh_w_ms0) (F.2.2.2.2.1 _ dh_w_mat) (F.2.2.2.2.1 _ dh_w_mc0) (by omega) (by omega) hkc.1 hkc.2 hd (hk _ _ _ _ hl ⟨⟨_, rfl, by simp only [Int32.lt_iff_toInt_lt]; split <;> rfl⟩, hs⟩ hR)
theorem dh_s_mmin (F : dh_Fx p s m args c cc nL own D ta A adr H0 ri0 sh) {d : Nat} (hRm : d + 1 ≤ R.frames ∧ 60 * d + 60 ≤ R.locals) (hkc : kc ≤ R.cells ∧ ks ≤ R.slots) {pc idx w0 : Nat} {q : Nat × Nat × Nat × Nat} {ls : dh_LS} {st : List dh_V} {h : dh_AH} {x y : Int} (hf : dh_hf own idx = some q) (h0 : q.2.2.1 = 1) (hd : decode cc pc = .ok (.invokestatic idx, 3)) (hwd : dh_wsum st ≤ 8) (hk : dh_OK p l e R s m args below meth c Q adr ta D A H0 ri0 nL kc ks (pc + 3) ls (.inl (if y < x then y else x) :: st) h) : dh_OK p l e R s m args below meth c Q adr ta D A H0 ri0 nL kc ks pc ls (.inl y :: .inl x :: st) h := by
  intro rls rst H locs hl hs hR
  obtain ⟨n2, xs, rfl, e2, hs_4⟩ := dh_rs_i hs
  clear hs
  have hs := hs_4
  clear hs_4
  obtain ⟨n1, xs, rfl, e1, hs_5⟩ := dh_rs_i hs
  clear hs
  have hs := hs_5
  clear hs_5
  subst e1 e2
  obtain ⟨-, -, hw⟩ := dh_hf_ok hf
  rw [h0] at hw
  have hsum := dh_rs_sum hs
  exact va_mmin F.1 F.2.1 (F.2.2.1.trans hl.1.symm) F.2.2.2.1 (F.2.2.2.2.1 _ hw) (F.2.2.2.2.1 _ dh_w_ms1) (F.2.2.2.2.1 _ dh_w_mat) (F.2.2.2.2.1 _ dh_w_mc1) (by omega) (by omega) hkc.1 hkc.2 hd (hk _ _ _ _ hl ⟨⟨_, rfl, by simp only [Int32.lt_iff_toInt_lt]; split <;> rfl⟩, hs⟩ hR)
theorem dh_s_mmaxL (F : dh_Fx p s m args c cc nL own D ta A adr H0 ri0 sh) {d : Nat} (hRm : d + 1 ≤ R.frames ∧ 60 * d + 60 ≤ R.locals) (hkc : kc ≤ R.cells ∧ ks ≤ R.slots) {pc idx w0 : Nat} {q : Nat × Nat × Nat × Nat} {ls : dh_LS} {st : List dh_V} {h : dh_AH} {x y : BitVec 64} (hf : dh_hf own idx = some q) (h0 : q.2.2.1 = 2) (hd : decode cc pc = .ok (.invokestatic idx, 3)) (hwd : dh_wsum st ≤ 8) (hk : dh_OK p l e R s m args below meth c Q adr ta D A H0 ri0 nL kc ks (pc + 3) ls (.inr (.inl (if y.toInt < x.toInt then x else y)) :: st) h) : dh_OK p l e R s m args below meth c Q adr ta D A H0 ri0 nL kc ks pc ls (.inr (.inl y) :: .inr (.inl x) :: st) h := by
  intro rls rst H locs hl hs hR
  obtain ⟨n2, xs, rfl, e2, hs_6⟩ := dh_rs_l hs
  clear hs
  have hs := hs_6
  clear hs_6
  obtain ⟨n1, xs, rfl, e1, hs_7⟩ := dh_rs_l hs
  clear hs
  have hs := hs_7
  clear hs_7
  subst e1 e2
  obtain ⟨-, -, hw⟩ := dh_hf_ok hf
  rw [h0] at hw
  have hsum := dh_rs_sum hs
  exact va_mmax_long F.1 F.2.1 (F.2.2.1.trans hl.1.symm) F.2.2.2.1 (F.2.2.2.2.1 _ hw) (F.2.2.2.2.1 _ dh_w_ms2) (F.2.2.2.2.1 _ dh_w_mat) (F.2.2.2.2.1 _ dh_w_mc2) (by omega) (by omega) hkc.1 hkc.2 hd (hk _ _ _ _ hl ⟨⟨_, rfl, by simp only [Int64.lt_iff_toInt_lt]; show Int64.toBitVec (if n2.toBitVec.toInt < n1.toBitVec.toInt then n1 else n2) = _; split <;> rfl⟩, hs⟩ hR)
theorem dh_s_mminL (F : dh_Fx p s m args c cc nL own D ta A adr H0 ri0 sh) {d : Nat} (hRm : d + 1 ≤ R.frames ∧ 60 * d + 60 ≤ R.locals) (hkc : kc ≤ R.cells ∧ ks ≤ R.slots) {pc idx w0 : Nat} {q : Nat × Nat × Nat × Nat} {ls : dh_LS} {st : List dh_V} {h : dh_AH} {x y : BitVec 64} (hf : dh_hf own idx = some q) (h0 : q.2.2.1 = 3) (hd : decode cc pc = .ok (.invokestatic idx, 3)) (hwd : dh_wsum st ≤ 8) (hk : dh_OK p l e R s m args below meth c Q adr ta D A H0 ri0 nL kc ks (pc + 3) ls (.inr (.inl (if y.toInt < x.toInt then y else x)) :: st) h) : dh_OK p l e R s m args below meth c Q adr ta D A H0 ri0 nL kc ks pc ls (.inr (.inl y) :: .inr (.inl x) :: st) h := by
  intro rls rst H locs hl hs hR
  obtain ⟨n2, xs, rfl, e2, hs_8⟩ := dh_rs_l hs
  clear hs
  have hs := hs_8
  clear hs_8
  obtain ⟨n1, xs, rfl, e1, hs_9⟩ := dh_rs_l hs
  clear hs
  have hs := hs_9
  clear hs_9
  subst e1 e2
  obtain ⟨-, -, hw⟩ := dh_hf_ok hf
  rw [h0] at hw
  have hsum := dh_rs_sum hs
  exact va_mmin_long F.1 F.2.1 (F.2.2.1.trans hl.1.symm) F.2.2.2.1 (F.2.2.2.2.1 _ hw) (F.2.2.2.2.1 _ dh_w_ms3) (F.2.2.2.2.1 _ dh_w_mat) (F.2.2.2.2.1 _ dh_w_mc3) (by omega) (by omega) hkc.1 hkc.2 hd (hk _ _ _ _ hl ⟨⟨_, rfl, by simp only [Int64.lt_iff_toInt_lt]; show Int64.toBitVec (if n2.toBitVec.toInt < n1.toBitVec.toInt then n2 else n1) = _; split <;> rfl⟩, hs⟩ hR)
theorem dh_s_copy (F : dh_Fx p s m args c cc nL own D ta A adr H0 ri0 sh) {d : Nat} (hRm : d + 1 ≤ R.frames ∧ 60 * d + 60 ≤ R.locals) (hkc : kc ≤ R.cells ∧ ks ≤ R.slots) {pc idx p0 q0 n0 n1 b0 c0 b1 c1 : Nat} {z : Nat × Nat × Nat} {ls : dh_LS} {st : List dh_V} {h : dh_AH} {n dp sp : Int} (hf : dh_yf own idx = some z) (hd : decode cc pc = .ok (.invokestatic idx, 3)) (hp0 : sh p0 = some (1, n0, b0, c0)) (hq0 : sh q0 = some (1, n1, b1, c1)) (hc : 0 ≤ sp ∧ 0 ≤ dp ∧ 0 ≤ n ∧ sp + n ≤ n0 ∧ dp + n ≤ n1 ∧ dh_wsum st ≤ 8)
    (hk : dh_OK p l e R s m args below meth c Q adr ta D A H0 ri0 nL kc ks (pc + 3) ls st (dh_ua h q0 (fun k => if dp.toNat ≤ k ∧ k < dp.toNat + n.toNat then h.1 p0 (sp.toNat + (k - dp.toNat)) else h.1 q0 k))) : dh_OK p l e R s m args below meth c Q adr ta D A H0 ri0 nL kc ks pc ls (.inl n :: .inl dp :: .inr (.inr (some q0)) :: .inl sp :: .inr (.inr (some p0)) :: st) h := by
  intro rls rst H locs hl hs hR
  obtain ⟨ri, rl, rfl, hP, hD, hS, hout⟩ := hR
  obtain ⟨hx, hb, hml, hown, hts, hN, hK, hsh, hscr⟩ := F
  obtain ⟨v1, xs, rfl, e1, hs_10⟩ := dh_rs_i hs
  clear hs
  have hs := hs_10
  clear hs_10
  obtain ⟨v2, xs, rfl, e2, hs_11⟩ := dh_rs_i hs
  clear hs
  have hs := hs_11
  clear hs_11
  obtain ⟨xs, rfl, hs_12⟩ := dh_rs_r hs
  clear hs
  have hs := hs_12
  clear hs_12
  obtain ⟨v3, xs, rfl, e3, hs_13⟩ := dh_rs_i hs
  clear hs
  have hs := hs_13
  clear hs_13
  obtain ⟨xs, rfl, hs_14⟩ := dh_rs_r hs
  clear hs
  have hs := hs_14
  clear hs_14
  subst e1 e2 e3
  obtain ⟨k1, k2, k3, k4, k5, k6⟩ := hc
  have hs0 := hsh p0 _ hp0 (by show (1 : Nat) ≠ 8; decide)
  have hs1 := hsh q0 _ hq0 (by show (1 : Nat) ≠ 8; decide)
  have hws0 := dh_ws_at (adr := adr) (ta := ta) (ri := ri) (rl := rl) hs0
  have hws1 := dh_ws_at (adr := adr) (ta := ta) (ri := ri) (rl := rl) hs1
  have hsum := dh_rs_sum hs
  have hnew : (dh_ws adr ta ri rl).set q0 (adr q0, .inl (ta 1, n1, .inl (va_cpy (ri p0) (ri q0) v3.toNatClampNeg v2.toNatClampNeg v1.toNatClampNeg))) = dh_ws adr ta (dh_ra ri q0 (va_cpy (ri p0) (ri q0) v3.toNatClampNeg v2.toNatClampNeg v1.toNatClampNeg)) rl :=
    dh_ws_set hs1 (fun j hj => dh_ra_ne hj) (fun _ _ => rfl) (by show _ = Sum.inl (ta 1, n1, Sum.inl (dh_ra ri q0 _ q0)); rw [dh_ra_at])
  refine va_copyi (D := D) (ty := .int) hx hb (hml.trans hl.1.symm) hown (hts _ (dh_yf_ok hf)) (hts _ dh_w_nat) (hts _ dh_w_sta) (hts _ dh_w_sys) hK hP hD hS p0 q0 0 0 hws0 hws1 rfl rfl rfl (dh_n_nlt0 k1) (dh_n_nlt0 k2) (dh_n_nlt0 k3) ?_ ?_ (fun _ _ => rfl) (by omega) ?_ hd (fun H1 locs1 h1 h2 h3 => hk _ _ _ _ hl hs ⟨_, rl, ?_, hnew ▸ h1, hnew ▸ h2, h3, fun j hj => ?_⟩)
  · rw [dh_n_nn k1, dh_n_nn k3]; omega
  · rw [dh_n_nn k2, dh_n_nn k3]; omega
  · have : nativeFrameWords "java/lang/System" "arraycopy" 5 = 7 := by decide
    rw [this]; omega
  · rw [dh_ab_ua]
    refine congrArg (dh_ua _ q0) (funext fun k => ?_)
    show (if v2.toInt.toNat ≤ k ∧ k < v2.toInt.toNat + v1.toInt.toNat then (ri p0 (v3.toInt.toNat + (k - v2.toInt.toNat))).toInt else (ri q0 k).toInt) = (if v2.toInt.toNat ≤ k ∧ k < v2.toInt.toNat + v1.toInt.toNat then ri p0 (v3.toInt.toNat + (k - v2.toInt.toNat)) else ri q0 k).toInt
    split <;> rfl
  · rw [dh_ra_ne (fun z => by rw [z, hs1] at hj; cases hj)]
    exact hout j hj
end DHC
