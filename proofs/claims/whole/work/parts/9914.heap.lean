section DHH
variable {p : Program} {l : Launch} {e : Env} {R : Room} {s : State} {m : MethodId} {args : Array Value} {below : List Frame} {meth : Method} {c : Code} {Q : State → Prop}
variable {cc : ByteArray} {nL own : Nat} {adr : Nat → Nat} {ta : Nat → ClassId} {D : va_G} {A : Nat → Prop} {H0 : Heap} {ri0 : Nat → Nat → Int32} {sh : Nat → Option (Nat × Nat × Nat × Nat)} {kc ks : Nat}
theorem dh_ff_ok {own idx : Nat} {q : Nat × Nat × Nat × Nat × Nat} (hf : dh_ff own idx = some q) : q.1 = own ∧ q.2.1 = idx ∧ dh_okf q = true := by
  have he := List.all_eq_true.mp dh_okf_all _ (List.mem_of_find?_eq_some hf)
  have h0 := List.find?_some hf
  simp only [Bool.and_eq_true, beq_iff_eq] at h0
  exact ⟨h0.1, h0.2, he⟩
theorem dh_sh0 {F : Nat → Option (Nat × Nat × Nat × Nat)} (hsh : ∀ q x, F q = some x → x.1 ≠ 8 → dh_sh q = some x) {q : Nat} {x : Nat × Nat × Nat × Nat} (h : F q = some x) (h8 : x.1 ≠ 8) : dh_sh q = some x := hsh q x h h8
set_option maxHeartbeats 1000000 in
theorem dh_s_getI (F : dh_Fx p s m args c cc nL own D ta A adr H0 ri0 sh) {pc : Nat} {ls : dh_LS} {st : List dh_V} {h : dh_AH} {idx p0 : Nat} {q : Nat × Nat × Nat × Nat × Nat} {f : Nat × Nat} (hf : dh_ff own idx = some q) (hfk : (dh_fk q.2.2.1)[q.2.2.2.1]? = some f) (hf3 : f.1 ≠ 3) (hsp : sh p0 = some (0, q.2.2.1, 0, 0)) (hd : decode cc pc = .ok (.getfield idx, 3)) (hk : dh_OK p l e R s m args below meth c Q adr ta D A H0 ri0 nL kc ks (pc + 3) ls (.inl (h.1 p0 q.2.2.2.1) :: st) h) : dh_OK p l e R s m args below meth c Q adr ta D A H0 ri0 nL kc ks pc ls (.inr (.inr (some p0)) :: st) h := by
  intro rls rst H locs hl hs hR
  obtain ⟨ri, rl, rfl, hP, hD, hS, hout⟩ := hR
  obtain ⟨hx, hb, hml, hown, hts, hN, hK, hsh, hscr⟩ := F
  obtain ⟨e1, e2, hq⟩ := dh_ff_ok hf
  subst e1 e2
  simp only [dh_okf, Bool.and_eq_true, decide_eq_true_eq] at hq
  obtain ⟨hw, hci, hk0, hdc, hty⟩ := hq
  obtain ⟨xs, rfl, hs_2⟩ := dh_rs_r hs
  clear hs
  have hs := hs_2
  clear hs_2
  have hs0 := hsh p0 _ hsp (by show (0 : Nat) ≠ 8; decide)
  have hws := dh_ws_at (adr := adr) (ta := ta) (ri := ri) (rl := rl) hs0
  have hu := dh_ucl hci
  have hv : ((dh_fk q.2.2.1).mapIdx (fun j f => if f.1 = 3 then Value.ref (adr (p0 + f.2)) else .int (ri p0 j)))[q.2.2.2.1]? = some (.int (ri p0 q.2.2.2.1)) := by
    rw [List.getElem?_mapIdx, hfk]
    simp [hf3]
  by_cases ho : q.1 = q.2.2.1
  · have hw' : dh_fw q ∈ dh_B := by
      apply dh_has_in (i := q.2.2.2.2)
      simpa [dh_hasN, ho] using hw
    rw [dh_fw, if_pos ho] at hw'
    exact va_get (D := D) hx hb hts hu.1 hown hK hP p0 hws (dh_vw hci) q.2.2.2.1 hk0 (hts _ hw') (fun x hx => by rw [hdc] at hx; exact hx) hv hd (hk _ _ _ _ hl ⟨⟨_, rfl, rfl⟩, hs⟩ ⟨ri, rl, rfl, hP, hD, hS, hout⟩)
  · have hw' : dh_fw q ∈ dh_N := by
      apply dh_hasN_in (i := q.2.2.2.2)
      · simpa [dh_hasN, ho] using hw
      · rw [dh_fw, if_neg ho]
        rfl
    rw [dh_fw, if_neg ho] at hw'
    exact va_getN (D := D) hx hb hts hu.1 hown hK hP p0 hws (dh_vw hci) q.2.2.2.1 hk0 (va_Nw.use rfl (hN _ hw')) (fun x hx => by rw [hdc] at hx; exact hx) hv hd (hk _ _ _ _ hl ⟨⟨_, rfl, rfl⟩, hs⟩ ⟨ri, rl, rfl, hP, hD, hS, hout⟩)
set_option maxHeartbeats 1000000 in
theorem dh_s_getR (F : dh_Fx p s m args c cc nL own D ta A adr H0 ri0 sh) {pc : Nat} {ls : dh_LS} {st : List dh_V} {h : dh_AH} {idx p0 : Nat} {q : Nat × Nat × Nat × Nat × Nat} {f : Nat × Nat} (hf : dh_ff own idx = some q) (hfk : (dh_fk q.2.2.1)[q.2.2.2.1]? = some f) (hf3 : f.1 = 3) (hsp : sh p0 = some (0, q.2.2.1, 0, 0)) (hd : decode cc pc = .ok (.getfield idx, 3)) (hk : dh_OK p l e R s m args below meth c Q adr ta D A H0 ri0 nL kc ks (pc + 3) ls (.inr (.inr (some (p0 + f.2))) :: st) h) : dh_OK p l e R s m args below meth c Q adr ta D A H0 ri0 nL kc ks pc ls (.inr (.inr (some p0)) :: st) h := by
  intro rls rst H locs hl hs hR
  obtain ⟨ri, rl, rfl, hP, hD, hS, hout⟩ := hR
  obtain ⟨hx, hb, hml, hown, hts, hN, hK, hsh, hscr⟩ := F
  obtain ⟨e1, e2, hq⟩ := dh_ff_ok hf
  subst e1 e2
  simp only [dh_okf, Bool.and_eq_true, decide_eq_true_eq] at hq
  obtain ⟨hw, hci, hk0, hdc, hty⟩ := hq
  obtain ⟨xs, rfl, hs_3⟩ := dh_rs_r hs
  clear hs
  have hs := hs_3
  clear hs_3
  have hs0 := hsh p0 _ hsp (by show (0 : Nat) ≠ 8; decide)
  have hws := dh_ws_at (adr := adr) (ta := ta) (ri := ri) (rl := rl) hs0
  have hu := dh_ucl hci
  have hv : ((dh_fk q.2.2.1).mapIdx (fun j f => if f.1 = 3 then Value.ref (adr (p0 + f.2)) else .int (ri p0 j)))[q.2.2.2.1]? = some (.ref (adr (p0 + f.2))) := by
    rw [List.getElem?_mapIdx, hfk]
    simp [hf3]
  by_cases ho : q.1 = q.2.2.1
  · have hw' : dh_fw q ∈ dh_B := by
      apply dh_has_in (i := q.2.2.2.2)
      simpa [dh_hasN, ho] using hw
    rw [dh_fw, if_pos ho] at hw'
    exact va_get (D := D) hx hb hts hu.1 hown hK hP p0 hws (dh_vw hci) q.2.2.2.1 hk0 (hts _ hw') (fun x hx => by rw [hdc] at hx; exact hx) hv hd (hk _ _ _ _ hl ⟨rfl, hs⟩ ⟨ri, rl, rfl, hP, hD, hS, hout⟩)
  · have hw' : dh_fw q ∈ dh_N := by
      apply dh_hasN_in (i := q.2.2.2.2)
      · simpa [dh_hasN, ho] using hw
      · rw [dh_fw, if_neg ho]
        rfl
    rw [dh_fw, if_neg ho] at hw'
    exact va_getN (D := D) hx hb hts hu.1 hown hK hP p0 hws (dh_vw hci) q.2.2.2.1 hk0 (va_Nw.use rfl (hN _ hw')) (fun x hx => by rw [hdc] at hx; exact hx) hv hd (hk _ _ _ _ hl ⟨rfl, hs⟩ ⟨ri, rl, rfl, hP, hD, hS, hout⟩)
set_option maxHeartbeats 1000000 in
theorem dh_s_putI (F : dh_Fx p s m args c cc nL own D ta A adr H0 ri0 sh) {pc : Nat} {ls : dh_LS} {st : List dh_V} {h : dh_AH} {idx p0 o : Nat} {v : Int} {q : Nat × Nat × Nat × Nat × Nat} (hf : dh_ff own idx = some q) (hfk : (dh_fk q.2.2.1)[q.2.2.2.1]? = some (0, o)) (hsp : sh p0 = some (0, q.2.2.1, 0, 0)) (hd : decode cc pc = .ok (.putfield idx, 3)) (hk : dh_OK p l e R s m args below meth c Q adr ta D A H0 ri0 nL kc ks (pc + 3) ls (st) (dh_ui h p0 q.2.2.2.1 v)) : dh_OK p l e R s m args below meth c Q adr ta D A H0 ri0 nL kc ks pc ls (.inl v :: .inr (.inr (some p0)) :: st) h := by
  intro rls rst H locs hl hs hR
  obtain ⟨ri, rl, rfl, hP, hD, hS, hout⟩ := hR
  obtain ⟨hx, hb, hml, hown, hts, hN, hK, hsh, hscr⟩ := F
  obtain ⟨e1, e2, hq⟩ := dh_ff_ok hf
  subst e1 e2
  simp only [dh_okf, Bool.and_eq_true, decide_eq_true_eq] at hq
  obtain ⟨hw, hci, hk0, hdc, hty⟩ := hq
  obtain ⟨n, xs, rfl, en, hs_4⟩ := dh_rs_i hs
  clear hs
  have hs := hs_4
  clear hs_4
  obtain ⟨xs, rfl, hs_5⟩ := dh_rs_r hs
  clear hs
  have hs := hs_5
  clear hs_5
  subst en
  have hs0 := hsh p0 _ hsp (by show (0 : Nat) ≠ 8; decide)
  have hws := dh_ws_at (adr := adr) (ta := ta) (ri := ri) (rl := rl) hs0
  have hu := dh_ucl hci
  rw [hfk] at hty
  simp only [decide_eq_true_eq] at hty
  have hf3 : ((0, o) : Nat × Nat).1 ≠ 3 := by show (0 : Nat) ≠ 3; decide
  have hnew : (dh_ws adr ta ri rl).set p0 (adr p0, .inr (q.2.2.1, ((dh_fk q.2.2.1).mapIdx (fun j f => if f.1 = 3 then Value.ref (adr (p0 + f.2)) else .int (ri p0 j))).set q.2.2.2.1 (.int n))) = dh_ws adr ta (dh_ru ri p0 q.2.2.2.1 n) rl :=
    dh_ws_set hs0 (fun j hj => dh_ru_ne hj) (fun _ _ => rfl) (by rw [dh_fs_set hfk hf3]; rfl)
  have hlen : q.2.2.2.1 < ((dh_fk q.2.2.1).mapIdx (fun j f => if f.1 = 3 then Value.ref (adr (p0 + f.2)) else .int (ri p0 j))).length := by
    rw [List.length_mapIdx]
    exact (List.getElem?_eq_some_iff.mp hfk).1
  have hgo : ∀ (H1 : Heap) (locs1 : List Loc), va_P D vwCl (dh_ws adr ta (dh_ru ri p0 q.2.2.2.1 n) rl) H1 → va_D A (dh_ws adr ta (dh_ru ri p0 q.2.2.2.1 n) rl) → va_S A H0 H1 locs1 → W p l e R s m args below meth c H1 locs1 kc ks Q (F0 m (pc + 3) rls xs) := fun H1 locs1 h1 h2 h3 => hk _ _ _ _ hl hs ⟨_, rl, dh_ab_ui.symm, h1, h2, h3, fun j hj => by
    rw [dh_ru_ne (fun z => by rw [z, hs0] at hj; cases hj)]
    exact hout j hj⟩
  by_cases ho : q.1 = q.2.2.1
  · have hw' : dh_fw q ∈ dh_B := by
      apply dh_has_in (i := q.2.2.2.2)
      simpa [dh_hasN, ho] using hw
    rw [dh_fw, if_pos ho] at hw'
    exact va_put (D := D) (ty := .int) hx hb hts hu.1 _ hu.2.1 hu.2.2 hown hK hP hD hS p0 hws (dh_vw hci) q.2.2.2.1 hk0 (hts _ hw') (fun x hx => by rw [hdc] at hx; exact hx) hty.1 hty.2 rfl rfl hlen hd (fun H1 locs1 h1 h2 h3 => hgo H1 locs1 (hnew ▸ h1) (hnew ▸ h2) h3)
  · have hw' : dh_fw q ∈ dh_N := by
      apply dh_hasN_in (i := q.2.2.2.2)
      · simpa [dh_hasN, ho] using hw
      · rw [dh_fw, if_neg ho]
        rfl
    rw [dh_fw, if_neg ho] at hw'
    exact va_putN (D := D) (ty := .int) hx hb hts hu.1 _ hu.2.1 hu.2.2 hown hK hP hD hS p0 hws (dh_vw hci) q.2.2.2.1 hk0 (va_Nw.use rfl (hN _ hw')) (fun x hx => by rw [hdc] at hx; exact hx) hty.1 hty.2 rfl rfl hlen hd (fun H1 locs1 h1 h2 h3 => hgo H1 locs1 (hnew ▸ h1) (hnew ▸ h2) h3)
set_option maxHeartbeats 1000000 in
theorem dh_s_putZ (F : dh_Fx p s m args c cc nL own D ta A adr H0 ri0 sh) {pc : Nat} {ls : dh_LS} {st : List dh_V} {h : dh_AH} {idx p0 o : Nat} {v : Int} {q : Nat × Nat × Nat × Nat × Nat} (hf : dh_ff own idx = some q) (hfk : (dh_fk q.2.2.1)[q.2.2.2.1]? = some (1, o)) (hsp : sh p0 = some (0, q.2.2.1, 0, 0)) (hv : v = 0 ∨ v = 1) (hd : decode cc pc = .ok (.putfield idx, 3)) (hk : dh_OK p l e R s m args below meth c Q adr ta D A H0 ri0 nL kc ks (pc + 3) ls (st) (dh_ui h p0 q.2.2.2.1 v)) : dh_OK p l e R s m args below meth c Q adr ta D A H0 ri0 nL kc ks pc ls (.inl v :: .inr (.inr (some p0)) :: st) h := by
  intro rls rst H locs hl hs hR
  obtain ⟨ri, rl, rfl, hP, hD, hS, hout⟩ := hR
  obtain ⟨hx, hb, hml, hown, hts, hN, hK, hsh, hscr⟩ := F
  obtain ⟨e1, e2, hq⟩ := dh_ff_ok hf
  subst e1 e2
  simp only [dh_okf, Bool.and_eq_true, decide_eq_true_eq] at hq
  obtain ⟨hw, hci, hk0, hdc, hty⟩ := hq
  obtain ⟨n, xs, rfl, en, hs_6⟩ := dh_rs_i hs
  clear hs
  have hs := hs_6
  clear hs_6
  obtain ⟨xs, rfl, hs_7⟩ := dh_rs_r hs
  clear hs
  have hs := hs_7
  clear hs_7
  subst en
  have hs0 := hsh p0 _ hsp (by show (0 : Nat) ≠ 8; decide)
  have hws := dh_ws_at (adr := adr) (ta := ta) (ri := ri) (rl := rl) hs0
  have hu := dh_ucl hci
  rw [hfk] at hty
  simp only [decide_eq_true_eq] at hty
  have hf3 : ((1, o) : Nat × Nat).1 ≠ 3 := by show (1 : Nat) ≠ 3; decide
  have hn0 : n = 0 ∨ n = 1 := hv.imp dh_n_0.mp dh_n_1.mp
  have hnz : narrow .boolean (.int n) = .int n := by rcases hn0 with rfl | rfl <;> rfl
  have hfz : fits .boolean (.int n) = true := by rcases hn0 with rfl | rfl <;> rfl
  have hnew : (dh_ws adr ta ri rl).set p0 (adr p0, .inr (q.2.2.1, ((dh_fk q.2.2.1).mapIdx (fun j f => if f.1 = 3 then Value.ref (adr (p0 + f.2)) else .int (ri p0 j))).set q.2.2.2.1 (.int n))) = dh_ws adr ta (dh_ru ri p0 q.2.2.2.1 n) rl :=
    dh_ws_set hs0 (fun j hj => dh_ru_ne hj) (fun _ _ => rfl) (by rw [dh_fs_set hfk hf3]; rfl)
  have hlen : q.2.2.2.1 < ((dh_fk q.2.2.1).mapIdx (fun j f => if f.1 = 3 then Value.ref (adr (p0 + f.2)) else .int (ri p0 j))).length := by
    rw [List.length_mapIdx]
    exact (List.getElem?_eq_some_iff.mp hfk).1
  have hgo : ∀ (H1 : Heap) (locs1 : List Loc), va_P D vwCl (dh_ws adr ta (dh_ru ri p0 q.2.2.2.1 n) rl) H1 → va_D A (dh_ws adr ta (dh_ru ri p0 q.2.2.2.1 n) rl) → va_S A H0 H1 locs1 → W p l e R s m args below meth c H1 locs1 kc ks Q (F0 m (pc + 3) rls xs) := fun H1 locs1 h1 h2 h3 => hk _ _ _ _ hl hs ⟨_, rl, dh_ab_ui.symm, h1, h2, h3, fun j hj => by
    rw [dh_ru_ne (fun z => by rw [z, hs0] at hj; cases hj)]
    exact hout j hj⟩
  by_cases ho : q.1 = q.2.2.1
  · have hw' : dh_fw q ∈ dh_B := by
      apply dh_has_in (i := q.2.2.2.2)
      simpa [dh_hasN, ho] using hw
    rw [dh_fw, if_pos ho] at hw'
    exact va_put (D := D) (ty := .boolean) hx hb hts hu.1 _ hu.2.1 hu.2.2 hown hK hP hD hS p0 hws (dh_vw hci) q.2.2.2.1 hk0 (hts _ hw') (fun x hx => by rw [hdc] at hx; exact hx) hty.1 hty.2 hnz hfz hlen hd (fun H1 locs1 h1 h2 h3 => hgo H1 locs1 (hnew ▸ h1) (hnew ▸ h2) h3)
  · have hw' : dh_fw q ∈ dh_N := by
      apply dh_hasN_in (i := q.2.2.2.2)
      · simpa [dh_hasN, ho] using hw
      · rw [dh_fw, if_neg ho]
        rfl
    rw [dh_fw, if_neg ho] at hw'
    exact va_putN (D := D) (ty := .boolean) hx hb hts hu.1 _ hu.2.1 hu.2.2 hown hK hP hD hS p0 hws (dh_vw hci) q.2.2.2.1 hk0 (va_Nw.use rfl (hN _ hw')) (fun x hx => by rw [hdc] at hx; exact hx) hty.1 hty.2 hnz hfz hlen hd (fun H1 locs1 h1 h2 h3 => hgo H1 locs1 (hnew ▸ h1) (hnew ▸ h2) h3)
set_option maxHeartbeats 1000000 in
theorem dh_s_iald (F : dh_Fx p s m args c cc nL own D ta A adr H0 ri0 sh) {pc : Nat} {ls : dh_LS} {st : List dh_V} {h : dh_AH} {p0 N b0 c0 : Nat} {i : Int} (hsp : sh p0 = some (1, N, b0, c0)) (hi : 0 ≤ i ∧ i < N) (hd : decode cc pc = .ok (.iaload, 1)) (hk : dh_OK p l e R s m args below meth c Q adr ta D A H0 ri0 nL kc ks (pc + 1) ls (.inl (h.1 p0 i.toNat) :: st) h) : dh_OK p l e R s m args below meth c Q adr ta D A H0 ri0 nL kc ks pc ls (.inl i :: .inr (.inr (some p0)) :: st) h := by
  intro rls rst H locs hl hs hR
  obtain ⟨ri, rl, rfl, hP, hD, hS, hout⟩ := hR
  obtain ⟨hx, hb, hml, hown, hts, hN, hK, hsh, hscr⟩ := F
  obtain ⟨n, xs, rfl, en, hs_8⟩ := dh_rs_i hs
  clear hs
  have hs := hs_8
  clear hs_8
  obtain ⟨xs, rfl, hs_9⟩ := dh_rs_r hs
  clear hs
  have hs := hs_9
  clear hs_9
  subst en
  have hs0 := hsh p0 _ hsp (by show (1 : Nat) ≠ 8; decide)
  have hws := dh_ws_at (adr := adr) (ta := ta) (ri := ri) (rl := rl) hs0
  exact va_iald (D := D) hx hb hK hP p0 0 hws rfl (dh_n_in hi.1 hi.2) hd (hk _ _ _ _ hl ⟨⟨_, rfl, rfl⟩, hs⟩ ⟨ri, rl, rfl, hP, hD, hS, hout⟩)
set_option maxHeartbeats 1000000 in
theorem dh_s_bald (F : dh_Fx p s m args c cc nL own D ta A adr H0 ri0 sh) {pc : Nat} {ls : dh_LS} {st : List dh_V} {h : dh_AH} {p0 N b0 c0 : Nat} {i : Int} (hsp : sh p0 = some (3, N, b0, c0)) (hi : 0 ≤ i ∧ i < N) (hd : decode cc pc = .ok (.baload, 1)) (hk : dh_OK p l e R s m args below meth c Q adr ta D A H0 ri0 nL kc ks (pc + 1) ls (.inl (h.1 p0 i.toNat) :: st) h) : dh_OK p l e R s m args below meth c Q adr ta D A H0 ri0 nL kc ks pc ls (.inl i :: .inr (.inr (some p0)) :: st) h := by
  intro rls rst H locs hl hs hR
  obtain ⟨ri, rl, rfl, hP, hD, hS, hout⟩ := hR
  obtain ⟨hx, hb, hml, hown, hts, hN, hK, hsh, hscr⟩ := F
  obtain ⟨n, xs, rfl, en, hs_10⟩ := dh_rs_i hs
  clear hs
  have hs := hs_10
  clear hs_10
  obtain ⟨xs, rfl, hs_11⟩ := dh_rs_r hs
  clear hs
  have hs := hs_11
  clear hs_11
  subst en
  have hs0 := hsh p0 _ hsp (by show (3 : Nat) ≠ 8; decide)
  have hws := dh_ws_at (adr := adr) (ta := ta) (ri := ri) (rl := rl) hs0
  exact va_bald (D := D) hx hb hK hP p0 2 hws rfl (dh_n_in hi.1 hi.2) hd (hk _ _ _ _ hl ⟨⟨_, rfl, rfl⟩, hs⟩ ⟨ri, rl, rfl, hP, hD, hS, hout⟩)
set_option maxHeartbeats 1000000 in
theorem dh_s_zald (F : dh_Fx p s m args c cc nL own D ta A adr H0 ri0 sh) {pc : Nat} {ls : dh_LS} {st : List dh_V} {h : dh_AH} {p0 N b0 c0 : Nat} {i : Int} (hsp : sh p0 = some (4, N, b0, c0)) (hi : 0 ≤ i ∧ i < N) (hd : decode cc pc = .ok (.baload, 1)) (hk : dh_OK p l e R s m args below meth c Q adr ta D A H0 ri0 nL kc ks (pc + 1) ls (.inl (h.1 p0 i.toNat) :: st) h) : dh_OK p l e R s m args below meth c Q adr ta D A H0 ri0 nL kc ks pc ls (.inl i :: .inr (.inr (some p0)) :: st) h := by
  intro rls rst H locs hl hs hR
  obtain ⟨ri, rl, rfl, hP, hD, hS, hout⟩ := hR
  obtain ⟨hx, hb, hml, hown, hts, hN, hK, hsh, hscr⟩ := F
  obtain ⟨n, xs, rfl, en, hs_12⟩ := dh_rs_i hs
  clear hs
  have hs := hs_12
  clear hs_12
  obtain ⟨xs, rfl, hs_13⟩ := dh_rs_r hs
  clear hs
  have hs := hs_13
  clear hs_13
  subst en
  have hs0 := hsh p0 _ hsp (by show (4 : Nat) ≠ 8; decide)
  have hws := dh_ws_at (adr := adr) (ta := ta) (ri := ri) (rl := rl) hs0
  exact va_zald (D := D) hx hb hK hP p0 3 hws rfl (dh_n_in hi.1 hi.2) hd (hk _ _ _ _ hl ⟨⟨_, rfl, rfl⟩, hs⟩ ⟨ri, rl, rfl, hP, hD, hS, hout⟩)
set_option maxHeartbeats 1000000 in
theorem dh_s_lald (F : dh_Fx p s m args c cc nL own D ta A adr H0 ri0 sh) {pc : Nat} {ls : dh_LS} {st : List dh_V} {h : dh_AH} {p0 N b0 c0 : Nat} {i : Int} (hsp : sh p0 = some (2, N, b0, c0)) (hi : 0 ≤ i ∧ i < N) (hd : decode cc pc = .ok (.laload, 1)) (hk : dh_OK p l e R s m args below meth c Q adr ta D A H0 ri0 nL kc ks (pc + 1) ls (.inr (.inl (h.2 p0 i.toNat)) :: st) h) : dh_OK p l e R s m args below meth c Q adr ta D A H0 ri0 nL kc ks pc ls (.inl i :: .inr (.inr (some p0)) :: st) h := by
  intro rls rst H locs hl hs hR
  obtain ⟨ri, rl, rfl, hP, hD, hS, hout⟩ := hR
  obtain ⟨hx, hb, hml, hown, hts, hN, hK, hsh, hscr⟩ := F
  obtain ⟨n, xs, rfl, en, hs_14⟩ := dh_rs_i hs
  clear hs
  have hs := hs_14
  clear hs_14
  obtain ⟨xs, rfl, hs_15⟩ := dh_rs_r hs
  clear hs
  have hs := hs_15
  clear hs_15
  subst en
  have hs0 := hsh p0 _ hsp (by show (2 : Nat) ≠ 8; decide)
  have hws := dh_ws_at (adr := adr) (ta := ta) (ri := ri) (rl := rl) hs0
  exact va_lald (D := D) hx hb hK hP p0 1 hws rfl (dh_n_in hi.1 hi.2) hd (hk _ _ _ _ hl ⟨⟨_, rfl, rfl⟩, hs⟩ ⟨ri, rl, rfl, hP, hD, hS, hout⟩)
set_option maxHeartbeats 1000000 in
theorem dh_s_sald (F : dh_Fx p s m args c cc nL own D ta A adr H0 ri0 sh) {pc : Nat} {ls : dh_LS} {st : List dh_V} {h : dh_AH} {p0 N b0 c0 : Nat} {i : Int} (hsp : sh p0 = some (8, N, b0, c0)) (hi : 0 ≤ i ∧ i < N) (hd : decode cc pc = .ok (.iaload, 1)) (hk : dh_OK p l e R s m args below meth c Q adr ta D A H0 ri0 nL kc ks (pc + 1) ls (.inl (h.1 p0 i.toNat) :: st) h) : dh_OK p l e R s m args below meth c Q adr ta D A H0 ri0 nL kc ks pc ls (.inl i :: .inr (.inr (some p0)) :: st) h := by
  intro rls rst H locs hl hs hR
  obtain ⟨ri, rl, rfl, hP, hD, hS, hout⟩ := hR
  obtain ⟨hx, hb, hml, hown, hts, hN, hK, hsh, hscr⟩ := F
  obtain ⟨n, xs, rfl, en, hs_16⟩ := dh_rs_i hs
  clear hs
  have hs := hs_16
  clear hs_16
  obtain ⟨xs, rfl, hs_17⟩ := dh_rs_r hs
  clear hs
  have hs := hs_17
  clear hs_17
  subst en
  obtain ⟨hX, hbl, hbA, hno, hN0⟩ := hscr p0 _ _ _ hsp
  exact va_sld hx hb hX hbl hbA hS (dh_n_in hi.1 hi.2) hd (hk _ _ _ _ hl ⟨⟨_, rfl, by rw [← hout p0 hno]; rfl⟩, hs⟩ ⟨ri, rl, rfl, hP, hD, hS, hout⟩)
set_option maxHeartbeats 1000000 in
theorem dh_s_aald5 (F : dh_Fx p s m args c cc nL own D ta A adr H0 ri0 sh) {pc : Nat} {ls : dh_LS} {st : List dh_V} {h : dh_AH} {p0 N b0 c0 : Nat} {i : Int} (hsp : sh p0 = some (5, N, b0, c0)) (hi : 0 ≤ i ∧ i < N) (hd : decode cc pc = .ok (.aaload, 1)) (hk : dh_OK p l e R s m args below meth c Q adr ta D A H0 ri0 nL kc ks (pc + 1) ls (.inr (.inr (some (p0 + b0 + i.toNat * c0))) :: st) h) : dh_OK p l e R s m args below meth c Q adr ta D A H0 ri0 nL kc ks pc ls (.inl i :: .inr (.inr (some p0)) :: st) h := by
  intro rls rst H locs hl hs hR
  obtain ⟨ri, rl, rfl, hP, hD, hS, hout⟩ := hR
  obtain ⟨hx, hb, hml, hown, hts, hN, hK, hsh, hscr⟩ := F
  obtain ⟨n, xs, rfl, en, hs_18⟩ := dh_rs_i hs
  clear hs
  have hs := hs_18
  clear hs_18
  obtain ⟨xs, rfl, hs_19⟩ := dh_rs_r hs
  clear hs
  have hs := hs_19
  clear hs_19
  subst en
  have hs0 := hsh p0 _ hsp (by show (5 : Nat) ≠ 8; decide)
  have hws := dh_ws_at (adr := adr) (ta := ta) (ri := ri) (rl := rl) hs0
  have hin := dh_n_in (n := N) hi.1 hi.2
  have hlt : n.toNatClampNeg < N := Nat.not_le.mp fun q => hin (Or.inr q)
  exact W.aald (v := .ref (adr (p0 + b0 + n.toInt.toNat * c0))) (ty := .object "DoubleHeap$Law") hx hb (hP p0 _ hws) ((hK.2 4 _ rfl).1 N (fun j => va_rf (if j < N then some (adr (p0 + b0 + j * c0)) else none))) rfl (fun q => by cases q) (by show ¬ (n < 0 ∨ (arrV _ _ _).slots.size ≤ _); rw [arrV_size]; exact hin) (by show (arrV _ _ _).slots[_]? = _; rw [arrV_read _ _ hlt]; exact congrArg (fun o => some (va_rf o)) (if_pos hlt)) rfl rfl hd (hk _ _ _ _ hl ⟨rfl, hs⟩ ⟨ri, rl, rfl, hP, hD, hS, hout⟩)
set_option maxHeartbeats 1000000 in
theorem dh_s_aald6 (F : dh_Fx p s m args c cc nL own D ta A adr H0 ri0 sh) {pc : Nat} {ls : dh_LS} {st : List dh_V} {h : dh_AH} {p0 N b0 c0 : Nat} {i : Int} (hsp : sh p0 = some (6, N, b0, c0)) (hi : 0 ≤ i ∧ i < N) (hd : decode cc pc = .ok (.aaload, 1)) (hk : dh_OK p l e R s m args below meth c Q adr ta D A H0 ri0 nL kc ks (pc + 1) ls (.inr (.inr (some (p0 + b0 + i.toNat * c0))) :: st) h) : dh_OK p l e R s m args below meth c Q adr ta D A H0 ri0 nL kc ks pc ls (.inl i :: .inr (.inr (some p0)) :: st) h := by
  intro rls rst H locs hl hs hR
  obtain ⟨ri, rl, rfl, hP, hD, hS, hout⟩ := hR
  obtain ⟨hx, hb, hml, hown, hts, hN, hK, hsh, hscr⟩ := F
  obtain ⟨n, xs, rfl, en, hs_20⟩ := dh_rs_i hs
  clear hs
  have hs := hs_20
  clear hs_20
  obtain ⟨xs, rfl, hs_21⟩ := dh_rs_r hs
  clear hs
  have hs := hs_21
  clear hs_21
  subst en
  have hs0 := hsh p0 _ hsp (by show (6 : Nat) ≠ 8; decide)
  have hws := dh_ws_at (adr := adr) (ta := ta) (ri := ri) (rl := rl) hs0
  have hin := dh_n_in (n := N) hi.1 hi.2
  have hlt : n.toNatClampNeg < N := Nat.not_le.mp fun q => hin (Or.inr q)
  exact W.aald (v := .ref (adr (p0 + b0 + n.toInt.toNat * c0))) (ty := .object "DoubleHeap$Tale") hx hb (hP p0 _ hws) ((hK.2 5 _ rfl).1 N (fun j => va_rf (if j < N then some (adr (p0 + b0 + j * c0)) else none))) rfl (fun q => by cases q) (by show ¬ (n < 0 ∨ (arrV _ _ _).slots.size ≤ _); rw [arrV_size]; exact hin) (by show (arrV _ _ _).slots[_]? = _; rw [arrV_read _ _ hlt]; exact congrArg (fun o => some (va_rf o)) (if_pos hlt)) rfl rfl hd (hk _ _ _ _ hl ⟨rfl, hs⟩ ⟨ri, rl, rfl, hP, hD, hS, hout⟩)
set_option maxHeartbeats 1000000 in
theorem dh_s_aald7 (F : dh_Fx p s m args c cc nL own D ta A adr H0 ri0 sh) {pc : Nat} {ls : dh_LS} {st : List dh_V} {h : dh_AH} {p0 N b0 c0 : Nat} {i : Int} (hsp : sh p0 = some (7, N, b0, c0)) (hi : 0 ≤ i ∧ i < N) (hd : decode cc pc = .ok (.aaload, 1)) (hk : dh_OK p l e R s m args below meth c Q adr ta D A H0 ri0 nL kc ks (pc + 1) ls (.inr (.inr (some (p0 + b0 + i.toNat * c0))) :: st) h) : dh_OK p l e R s m args below meth c Q adr ta D A H0 ri0 nL kc ks pc ls (.inl i :: .inr (.inr (some p0)) :: st) h := by
  intro rls rst H locs hl hs hR
  obtain ⟨ri, rl, rfl, hP, hD, hS, hout⟩ := hR
  obtain ⟨hx, hb, hml, hown, hts, hN, hK, hsh, hscr⟩ := F
  obtain ⟨n, xs, rfl, en, hs_22⟩ := dh_rs_i hs
  clear hs
  have hs := hs_22
  clear hs_22
  obtain ⟨xs, rfl, hs_23⟩ := dh_rs_r hs
  clear hs
  have hs := hs_23
  clear hs_23
  subst en
  have hs0 := hsh p0 _ hsp (by show (7 : Nat) ≠ 8; decide)
  have hws := dh_ws_at (adr := adr) (ta := ta) (ri := ri) (rl := rl) hs0
  have hin := dh_n_in (n := N) hi.1 hi.2
  have hlt : n.toNatClampNeg < N := Nat.not_le.mp fun q => hin (Or.inr q)
  exact W.aald (v := .ref (adr (p0 + b0 + n.toInt.toNat * c0))) (ty := .array .int) hx hb (hP p0 _ hws) ((hK.2 6 _ rfl).1 N (fun j => va_rf (if j < N then some (adr (p0 + b0 + j * c0)) else none))) rfl (fun q => by cases q) (by show ¬ (n < 0 ∨ (arrV _ _ _).slots.size ≤ _); rw [arrV_size]; exact hin) (by show (arrV _ _ _).slots[_]? = _; rw [arrV_read _ _ hlt]; exact congrArg (fun o => some (va_rf o)) (if_pos hlt)) rfl rfl hd (hk _ _ _ _ hl ⟨rfl, hs⟩ ⟨ri, rl, rfl, hP, hD, hS, hout⟩)
set_option maxHeartbeats 1000000 in
theorem dh_s_iast (F : dh_Fx p s m args c cc nL own D ta A adr H0 ri0 sh) {pc : Nat} {ls : dh_LS} {st : List dh_V} {h : dh_AH} {p0 N b0 c0 : Nat} {i v : Int} (hsp : sh p0 = some (1, N, b0, c0)) (hi : 0 ≤ i ∧ i < N) (hd : decode cc pc = .ok (.iastore, 1)) (hk : dh_OK p l e R s m args below meth c Q adr ta D A H0 ri0 nL kc ks (pc + 1) ls (st) (dh_ui h p0 i.toNat v)) : dh_OK p l e R s m args below meth c Q adr ta D A H0 ri0 nL kc ks pc ls (.inl v :: .inl i :: .inr (.inr (some p0)) :: st) h := by
  intro rls rst H locs hl hs hR
  obtain ⟨ri, rl, rfl, hP, hD, hS, hout⟩ := hR
  obtain ⟨hx, hb, hml, hown, hts, hN, hK, hsh, hscr⟩ := F
  obtain ⟨w, xs, rfl, ew, hs_24⟩ := dh_rs_i hs
  clear hs
  have hs := hs_24
  clear hs_24
  obtain ⟨n, xs, rfl, en, hs_25⟩ := dh_rs_i hs
  clear hs
  have hs := hs_25
  clear hs_25
  obtain ⟨xs, rfl, hs_26⟩ := dh_rs_r hs
  clear hs
  have hs := hs_26
  clear hs_26
  subst en
  subst ew
  have hs0 := hsh p0 _ hsp (by show (1 : Nat) ≠ 8; decide)
  have hws := dh_ws_at (adr := adr) (ta := ta) (ri := ri) (rl := rl) hs0
  have hnew : (dh_ws adr ta ri rl).set p0 (adr p0, .inl (ta 1, N, .inl (upd (ri p0) n.toNatClampNeg (w)))) = dh_ws adr ta (dh_ru ri p0 n.toNatClampNeg (w)) rl :=
    dh_ws_set hs0 (fun j hj => dh_ru_ne hj) (fun _ _ => rfl) (by rw [← dh_ru_upd]; rfl)
  exact va_iast (D := D) hx hb hK hP hD hS p0 0 hws rfl (dh_n_in hi.1 hi.2) hd (fun H1 locs1 h1 h2 h3 => hk _ _ _ _ hl hs ⟨_, rl, dh_ab_ui.symm, hnew ▸ h1, hnew ▸ h2, h3, fun j hj => by
    rw [dh_ru_ne (fun z => by rw [z, hs0] at hj; cases hj)]
    exact hout j hj⟩)
set_option maxHeartbeats 1000000 in
theorem dh_s_bast (F : dh_Fx p s m args c cc nL own D ta A adr H0 ri0 sh) {pc : Nat} {ls : dh_LS} {st : List dh_V} {h : dh_AH} {p0 N b0 c0 : Nat} {i v : Int} (hsp : sh p0 = some (3, N, b0, c0)) (hi : 0 ≤ i ∧ i < N) (hd : decode cc pc = .ok (.bastore, 1)) (hk : dh_OK p l e R s m args below meth c Q adr ta D A H0 ri0 nL kc ks (pc + 1) ls (st) (dh_ui h p0 i.toNat (Int.bmod v 256))) : dh_OK p l e R s m args below meth c Q adr ta D A H0 ri0 nL kc ks pc ls (.inl v :: .inl i :: .inr (.inr (some p0)) :: st) h := by
  intro rls rst H locs hl hs hR
  obtain ⟨ri, rl, rfl, hP, hD, hS, hout⟩ := hR
  obtain ⟨hx, hb, hml, hown, hts, hN, hK, hsh, hscr⟩ := F
  obtain ⟨w, xs, rfl, ew, hs_27⟩ := dh_rs_i hs
  clear hs
  have hs := hs_27
  clear hs_27
  obtain ⟨n, xs, rfl, en, hs_28⟩ := dh_rs_i hs
  clear hs
  have hs := hs_28
  clear hs_28
  obtain ⟨xs, rfl, hs_29⟩ := dh_rs_r hs
  clear hs
  have hs := hs_29
  clear hs_29
  subst en
  subst ew
  have hs0 := hsh p0 _ hsp (by show (3 : Nat) ≠ 8; decide)
  have hws := dh_ws_at (adr := adr) (ta := ta) (ri := ri) (rl := rl) hs0
  have hnew : (dh_ws adr ta ri rl).set p0 (adr p0, .inl (ta 3, N, .inl (upd (ri p0) n.toNatClampNeg (vp_nar .byte w)))) = dh_ws adr ta (dh_ru ri p0 n.toNatClampNeg (vp_nar .byte w)) rl :=
    dh_ws_set hs0 (fun j hj => dh_ru_ne hj) (fun _ _ => rfl) (by rw [← dh_ru_upd]; rfl)
  exact va_bast (D := D) hx hb hK hP hD hS p0 2 hws rfl (dh_n_in hi.1 hi.2) hd (fun H1 locs1 h1 h2 h3 => hk _ _ _ _ hl hs ⟨_, rl, by rw [dh_ab_ui, vp_nar_byte, dh_i2b]; rfl, hnew ▸ h1, hnew ▸ h2, h3, fun j hj => by
    rw [dh_ru_ne (fun z => by rw [z, hs0] at hj; cases hj)]
    exact hout j hj⟩)
set_option maxHeartbeats 1000000 in
theorem dh_s_zast (F : dh_Fx p s m args c cc nL own D ta A adr H0 ri0 sh) {pc : Nat} {ls : dh_LS} {st : List dh_V} {h : dh_AH} {p0 N b0 c0 : Nat} {i v : Int} (hsp : sh p0 = some (4, N, b0, c0)) (hi : 0 ≤ i ∧ i < N) (hv : v = 0 ∨ v = 1) (hd : decode cc pc = .ok (.bastore, 1)) (hk : dh_OK p l e R s m args below meth c Q adr ta D A H0 ri0 nL kc ks (pc + 1) ls (st) (dh_ui h p0 i.toNat v)) : dh_OK p l e R s m args below meth c Q adr ta D A H0 ri0 nL kc ks pc ls (.inl v :: .inl i :: .inr (.inr (some p0)) :: st) h := by
  intro rls rst H locs hl hs hR
  obtain ⟨ri, rl, rfl, hP, hD, hS, hout⟩ := hR
  obtain ⟨hx, hb, hml, hown, hts, hN, hK, hsh, hscr⟩ := F
  obtain ⟨w, xs, rfl, ew, hs_30⟩ := dh_rs_i hs
  clear hs
  have hs := hs_30
  clear hs_30
  obtain ⟨n, xs, rfl, en, hs_31⟩ := dh_rs_i hs
  clear hs
  have hs := hs_31
  clear hs_31
  obtain ⟨xs, rfl, hs_32⟩ := dh_rs_r hs
  clear hs
  have hs := hs_32
  clear hs_32
  subst en
  subst ew
  have hnz : vp_nar .boolean w = w := by rcases hv.imp dh_n_0.mp dh_n_1.mp with rfl | rfl <;> rfl
  have hs0 := hsh p0 _ hsp (by show (4 : Nat) ≠ 8; decide)
  have hws := dh_ws_at (adr := adr) (ta := ta) (ri := ri) (rl := rl) hs0
  have hnew : (dh_ws adr ta ri rl).set p0 (adr p0, .inl (ta 4, N, .inl (upd (ri p0) n.toNatClampNeg (vp_nar .boolean w)))) = dh_ws adr ta (dh_ru ri p0 n.toNatClampNeg (vp_nar .boolean w)) rl :=
    dh_ws_set hs0 (fun j hj => dh_ru_ne hj) (fun _ _ => rfl) (by rw [← dh_ru_upd]; rfl)
  exact va_zast (D := D) hx hb hK hP hD hS p0 3 hws rfl (dh_n_in hi.1 hi.2) hd (fun H1 locs1 h1 h2 h3 => hk _ _ _ _ hl hs ⟨_, rl, by rw [dh_ab_ui, hnz]; rfl, hnew ▸ h1, hnew ▸ h2, h3, fun j hj => by
    rw [dh_ru_ne (fun z => by rw [z, hs0] at hj; cases hj)]
    exact hout j hj⟩)
set_option maxHeartbeats 1000000 in
theorem dh_s_last (F : dh_Fx p s m args c cc nL own D ta A adr H0 ri0 sh) {pc : Nat} {ls : dh_LS} {st : List dh_V} {h : dh_AH} {p0 N b0 c0 : Nat} {i : Int} {v : BitVec 64} (hsp : sh p0 = some (2, N, b0, c0)) (hi : 0 ≤ i ∧ i < N) (hd : decode cc pc = .ok (.lastore, 1)) (hk : dh_OK p l e R s m args below meth c Q adr ta D A H0 ri0 nL kc ks (pc + 1) ls (st) (dh_ul h p0 i.toNat v)) : dh_OK p l e R s m args below meth c Q adr ta D A H0 ri0 nL kc ks pc ls (.inr (.inl v) :: .inl i :: .inr (.inr (some p0)) :: st) h := by
  intro rls rst H locs hl hs hR
  obtain ⟨ri, rl, rfl, hP, hD, hS, hout⟩ := hR
  obtain ⟨hx, hb, hml, hown, hts, hN, hK, hsh, hscr⟩ := F
  obtain ⟨w, xs, rfl, ew, hs_33⟩ := dh_rs_l hs
  clear hs
  have hs := hs_33
  clear hs_33
  obtain ⟨n, xs, rfl, en, hs_34⟩ := dh_rs_i hs
  clear hs
  have hs := hs_34
  clear hs_34
  obtain ⟨xs, rfl, hs_35⟩ := dh_rs_r hs
  clear hs
  have hs := hs_35
  clear hs_35
  subst en
  subst ew
  have hs0 := hsh p0 _ hsp (by show (2 : Nat) ≠ 8; decide)
  have hws := dh_ws_at (adr := adr) (ta := ta) (ri := ri) (rl := rl) hs0
  have hnew : (dh_ws adr ta ri rl).set p0 (adr p0, .inl (ta 2, N, .inr (.inl (vp_updL (rl p0) n.toNatClampNeg w)))) = dh_ws adr ta ri (dh_rU rl p0 n.toNatClampNeg w) :=
    dh_ws_set hs0 (fun _ _ => rfl) (fun j hj => dh_rU_ne hj) (by rw [← dh_rU_upd]; rfl)
  exact va_last (D := D) hx hb hK hP hD hS p0 1 hws rfl (dh_n_in hi.1 hi.2) hd (fun H1 locs1 h1 h2 h3 => hk _ _ _ _ hl hs ⟨ri, _, dh_ab_ul.symm, hnew ▸ h1, hnew ▸ h2, h3, hout⟩)
set_option maxHeartbeats 1000000 in
theorem dh_s_len1 (F : dh_Fx p s m args c cc nL own D ta A adr H0 ri0 sh) {pc : Nat} {ls : dh_LS} {st : List dh_V} {h : dh_AH} {p0 N b0 c0 : Nat} (hN0 : N < 2147483648) (hsp : sh p0 = some (1, N, b0, c0)) (hd : decode cc pc = .ok (.arraylength, 1)) (hk : dh_OK p l e R s m args below meth c Q adr ta D A H0 ri0 nL kc ks (pc + 1) ls (.inl N :: st) h) : dh_OK p l e R s m args below meth c Q adr ta D A H0 ri0 nL kc ks pc ls (.inr (.inr (some p0)) :: st) h := by
  intro rls rst H locs hl hs hR
  obtain ⟨ri, rl, rfl, hP, hD, hS, hout⟩ := hR
  obtain ⟨hx, hb, hml, hown, hts, hN, hK, hsh, hscr⟩ := F
  obtain ⟨xs, rfl, hs_36⟩ := dh_rs_r hs
  clear hs
  have hs := hs_36
  clear hs_36
  have hs0 := hsh p0 _ hsp (by show (1 : Nat) ≠ 8; decide)
  have hws := dh_ws_at (adr := adr) (ta := ta) (ri := ri) (rl := rl) hs0
  exact va_alen (D := D) hx hb hK hP p0 0 hws rfl rfl hd (hk _ _ _ _ hl ⟨⟨_, rfl, nI_toInt hN0⟩, hs⟩ ⟨ri, rl, rfl, hP, hD, hS, hout⟩)
set_option maxHeartbeats 1000000 in
theorem dh_s_len2 (F : dh_Fx p s m args c cc nL own D ta A adr H0 ri0 sh) {pc : Nat} {ls : dh_LS} {st : List dh_V} {h : dh_AH} {p0 N b0 c0 : Nat} (hN0 : N < 2147483648) (hsp : sh p0 = some (2, N, b0, c0)) (hd : decode cc pc = .ok (.arraylength, 1)) (hk : dh_OK p l e R s m args below meth c Q adr ta D A H0 ri0 nL kc ks (pc + 1) ls (.inl N :: st) h) : dh_OK p l e R s m args below meth c Q adr ta D A H0 ri0 nL kc ks pc ls (.inr (.inr (some p0)) :: st) h := by
  intro rls rst H locs hl hs hR
  obtain ⟨ri, rl, rfl, hP, hD, hS, hout⟩ := hR
  obtain ⟨hx, hb, hml, hown, hts, hN, hK, hsh, hscr⟩ := F
  obtain ⟨xs, rfl, hs_37⟩ := dh_rs_r hs
  clear hs
  have hs := hs_37
  clear hs_37
  have hs0 := hsh p0 _ hsp (by show (2 : Nat) ≠ 8; decide)
  have hws := dh_ws_at (adr := adr) (ta := ta) (ri := ri) (rl := rl) hs0
  exact va_alen (D := D) hx hb hK hP p0 1 hws rfl rfl hd (hk _ _ _ _ hl ⟨⟨_, rfl, nI_toInt hN0⟩, hs⟩ ⟨ri, rl, rfl, hP, hD, hS, hout⟩)
set_option maxHeartbeats 1000000 in
theorem dh_s_len8 (F : dh_Fx p s m args c cc nL own D ta A adr H0 ri0 sh) {pc : Nat} {ls : dh_LS} {st : List dh_V} {h : dh_AH} {p0 N b0 c0 : Nat} (hsp : sh p0 = some (8, N, b0, c0)) (hd : decode cc pc = .ok (.arraylength, 1)) (hk : dh_OK p l e R s m args below meth c Q adr ta D A H0 ri0 nL kc ks (pc + 1) ls (.inl N :: st) h) : dh_OK p l e R s m args below meth c Q adr ta D A H0 ri0 nL kc ks pc ls (.inr (.inr (some p0)) :: st) h := by
  intro rls rst H locs hl hs hR
  obtain ⟨ri, rl, rfl, hP, hD, hS, hout⟩ := hR
  obtain ⟨hx, hb, hml, hown, hts, hN, hK, hsh, hscr⟩ := F
  obtain ⟨xs, rfl, hs_38⟩ := dh_rs_r hs
  clear hs
  have hs := hs_38
  clear hs_38
  obtain ⟨hX, hbl, hbA, hno, hN0⟩ := hscr p0 _ _ _ hsp
  exact va_slen hx hb hX hbl hbA hS hd (hk _ _ _ _ hl ⟨⟨_, rfl, nI_toInt hN0⟩, hs⟩ ⟨ri, rl, rfl, hP, hD, hS, hout⟩)
end DHH
