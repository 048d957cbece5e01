/-! ===== a method of the abstract machine, and the machine's contract out of it ===== -/
theorem dh_ckBs_at {cc : ByteArray} {nL rtc own : Nat} {bp : List Nat} : ∀ {ps : List Nat} {bs : List (List dh_RI)} {b t : Nat}, dh_ckBs cc nL rtc own bp ps bs = true → ps[b]? = some t → dh_ckB cc nL rtc own bp t (bs.getD b []) = true
  | [], [], b, t, _, h => by simp at h
  | p :: ps, x :: xs, 0, t, h, hb => by
    simp only [dh_ckBs, Bool.and_eq_true] at h
    simp only [List.getElem?_cons_zero, Option.some.injEq] at hb
    subst hb
    simpa using h.1
  | p :: ps, x :: xs, b + 1, t, h, hb => by
    simp only [dh_ckBs, Bool.and_eq_true] at h
    simp only [List.getElem?_cons_succ] at hb
    simpa using dh_ckBs_at h.2 hb
  | [], _ :: _, _, _, h, _ => by simp [dh_ckBs] at h
  | _ :: _, [], _, _, h, _ => by simp [dh_ckBs] at h
section DHY
variable {p : Program} {l : Launch} {e : Env} {R : Room} {s : State} {m : MethodId} {args : Array Value} {below : List Frame} {meth : Method} {c : Code} {Q : State → Prop}
variable {cc : ByteArray} {nL own : Nat} {adr : Nat → Nat} {ta : Nat → ClassId} {D : va_G} {A : Nat → Prop} {H0 : Heap} {ri0 : Nat → Nat → Int32} {sh : Nat → Option (Nat × Nat × Nat × Nat)} {kc ks : Nat}
theorem dh_blk_sim (F : dh_Fx p s m args c cc nL own D ta A adr H0 ri0 sh) {d : Nat} (hA : ∀ q, H0.size ≤ q → A q) (hRm : d + 1 ≤ R.frames ∧ 60 * d + 60 ≤ R.locals) (hkc : kc ≤ R.cells ∧ ks ≤ R.slots) {C : dh_C} (hCm : dh_mono C) (hC : ∀ mn as h Qv, C mn as h Qv → dh_Mt l d mn as h Qv) {bp : List Nat} {rtc : Nat} {RQ : Option dh_V → dh_AH → Prop} (hRt : dh_Rt p l e R s m args below meth c Q adr ta D A H0 ri0 kc ks cc rtc RQ) {X : Nat → dh_LS → List dh_V → dh_AH → Prop} (hX : ∀ b ls st h, X b ls st h → ∀ t, bp[b]? = some t → dh_OK p l e R s m args below meth c Q adr ta D A H0 ri0 nL kc ks t ls st h) :
    ∀ (rs : List dh_RI) (pc : Nat) (ls : dh_LS) (st : List dh_V) (h : dh_AH), dh_ckB cc nL rtc own bp pc rs = true → dh_wpB sh C X RQ rs ls st h → dh_OK p l e R s m args below meth c Q adr ta D A H0 ri0 nL kc ks pc ls st h := by
  intro rs
  induction rs with
  | nil => intro pc ls st h _ hw; exact hw.elim
  | cons r rs ih =>
    intro pc ls st h ck hw
    unfold dh_ckB at ck
    unfold dh_wpB at hw
    by_cases h39 : r.1 = 39
    · rw [if_pos h39, decide_eq_true_eq] at ck
      obtain ⟨op, a, b, c', l'⟩ := r
      cases h39
      exact hX b ls st h hw pc ck
    · rw [if_neg h39] at ck
      cases hdc : decode cc pc with
      | error z => rw [hdc] at ck; cases ck
      | ok q =>
        obtain ⟨i, len⟩ := q
        rw [hdc] at ck
        simp only [Bool.and_eq_true] at ck
        cases hdo : dh_do sh r ls st h with
        | none => rw [hdo] at hw; exact hw.elim
        | some o =>
          rw [hdo] at hw
          refine dh_step F hA hRm hkc hC hRt hdc (dh_eqr_eq ck.1) hdo ?_
          match o, hw with
          | .inl o, hw => exact ih _ _ _ _ ck.2 hw
          | .inr (.inl o), hw => exact fun t ht => hX _ _ _ _ hw t ht
          | .inr (.inr (.inl o)), hw => exact hw
          | .inr (.inr (.inr o)), hw => exact hCm _ _ _ _ _ (fun v h' q => ih _ _ _ _ ck.2 q) hw
end DHY
theorem dh_rtc0 {ret : Option FieldType} (h : dh_rtc 0 ret = true) : ret = some .int := by
  cases ret with
  | none => cases h
  | some t => cases t <;> first | rfl | cases h
theorem dh_rtc1 {ret : Option FieldType} (h : dh_rtc 1 ret = true) : ret = some .long := by
  cases ret with
  | none => cases h
  | some t => cases t <;> first | rfl | cases h
theorem dh_rtc2 {ret : Option FieldType} (h : dh_rtc 2 ret = true) : ∃ n, ret = some (.object n) := by
  cases ret with
  | none => cases h
  | some t => cases t <;> first | exact ⟨_, rfl⟩ | cases h
theorem dh_rtc3 {ret : Option FieldType} (h : dh_rtc 3 ret = true) : ret = some .boolean := by
  cases ret with
  | none => cases h
  | some t => cases t <;> first | rfl | cases h
theorem dh_rtc4 {ret : Option FieldType} (h : dh_rtc 4 ret = true) : ret = none := by
  cases ret with
  | none => rfl
  | some t => cases t <;> cases h
theorem dh_shl_8 : dh_shl.all (fun x => decide (x.1 ≠ 8)) = true := by decide +kernel
theorem dh_sh_8 {q n b c : Nat} (h : dh_sh q = some (8, n, b, c)) : False := by
  have := List.all_eq_true.mp dh_shl_8 _ (List.mem_of_getElem? h)
  simp at this
set_option maxHeartbeats 4000000 in
/-- THE SIMULATION: what the abstract machine says of a method is a contract of the machine -/
theorem dh_simM (l : Launch) : ∀ (d mn : Nat) (as : List dh_V) (h : dh_AH) (Qv : Option dh_V → dh_AH → Prop), dh_wpM d mn as h Qv → dh_Mt l d mn as h Qv := by
  intro d
  induction d with
  | zero => intro mn as h Qv hw; exact hw.elim
  | succ d ih =>
    intro mn as h Qv hw mi hmi ho adr ta D ra ri rl sz hrs hh
    subst hh
    obtain ⟨-, -, -, -, hplain, -, hcn, hrtc, hbp0⟩ := dh_mfacts hmi ho
    obtain ⟨hlen, hw⟩ := hw
    have hnL : dh_nL mn = mi.2.2.1 := by unfold dh_nL; rw [hmi]
    rw [hnL] at hlen hw
    have hck : dh_ckBs mi.2.1 mi.2.2.1 mi.2.2.2.2.2.2.2.2 mi.2.2.2.2.2.2.1 mi.2.2.2.2.2.2.2.1 mi.2.2.2.2.2.2.2.1 (dh_pt.getD mn []) = true := by
      have := dh_ckm mn (dh_mt_lt hmi ho)
      unfold dh_ckM at this
      rw [hmi] at this
      exact this
    refine Met.ofW (cc := mi.2.1) (maxL := mi.2.2.1) (ret := mi.2.2.2.1) hplain rfl ?_
    intro p e s m args below meth c s₁ B hml hv
    obtain ⟨rfl, hsz, hP, hK, hD0, hN⟩ := hv
    subst hsz
    have hx := B.exec
    have hb := B.bytes
    have hr := B.returns
    have hts := atoms_spec (ws := dh_cw mi :: dh_B) B.pre
    have hown : s.vm.findClass mi.1.cls = some m.cls := findClass_of_methodNamed B.named
    have hlocks := B.notSynchronized
    have hD := hD0.self (sz := s.heap.size)
    have hS : va_S (va_A (dh_ws adr ta ri rl) s.heap.size) s.heap s.heap [] := va_S.rf
    rw [lg_entry_eq]
    have hl := dh_rl_en (n := mi.2.2.1) hrs hlen
    have F : dh_Fx p s m ra.toArray c mi.2.1 mi.2.2.1 mi.2.2.2.2.2.2.1 D ta (va_A (dh_ws adr ta ri rl) s.heap.size) adr s.heap ri dh_sh := ⟨hx, hb, hml, by rw [hcn]; exact hown, fun w hw => hts w (List.mem_cons_of_mem _ hw), hN, hK, fun q x h _ => h, fun q n b c h => (dh_sh_8 h).elim⟩
    have hRt : dh_Rt p l e (headSpec (dh_cw mi :: dh_B) (dh_rm (d + 1))).room s m ra.toArray below meth c (MQ below (dh_Qc adr ta D ri rl s.heap.size Qv) ra.toArray s 0 0 (va_A (dh_ws adr ta ri rl) s.heap.size)) adr ta D (va_A (dh_ws adr ta ri rl) s.heap.size) s.heap ri 0 0 mi.2.1 mi.2.2.2.2.2.2.2.2 Qv := by
      intro pc rls H locs h hR
      obtain ⟨ri', rl', rfl, hP', hD', hS', hout'⟩ := hR
      refine ⟨fun n hn hd hq => ?_, fun n hn hd hq => ?_, fun x v hn hd hxv hq => ?_, fun hn hd hq => ?_⟩
      · rcases hn with hn | ⟨hn, hn2⟩
        · rw [hn] at hrtc
          exact W.iret hx hb (hr.trans (dh_rtc0 hrtc)) (fun t ht hW => ⟨⟨some (.int n), some (.inl n.toInt), ri', rl', rfl, ⟨n, rfl, rfl⟩, hq, by rw [ht]; exact hP', hout'⟩, hS'.F ht⟩) hS'.2.2 hd
        · rw [hn] at hrtc
          exact W.zret (ty := .boolean) hx hb (hr.trans (dh_rtc3 hrtc)) (by rcases hn2 with rfl | rfl <;> rfl) (fun t ht hW => ⟨⟨some (.int n), some (.inl n.toInt), ri', rl', rfl, ⟨n, rfl, rfl⟩, hq, by rw [ht]; exact hP', hout'⟩, hS'.F ht⟩) hS'.2.2 hd
      · rw [hn] at hrtc
        exact W.lret hx hb (hr.trans (dh_rtc1 hrtc)) (fun t ht hW => ⟨⟨some (.long n), some (.inr (.inl n.toBitVec)), ri', rl', rfl, ⟨n, rfl, rfl⟩, hq, by rw [ht]; exact hP', hout'⟩, hS'.F ht⟩) hS'.2.2 hd
      · rw [hn] at hrtc
        obtain ⟨nm, hnm⟩ := dh_rtc2 hrtc
        exact W.aret hx hb (hr.trans hnm) (Or.inl ⟨nm, rfl⟩) (by cases v with | none => exact Or.inl hxv | some q => exact Or.inr ⟨_, hxv⟩) (fun t ht hW => ⟨⟨some x, some (.inr (.inr v)), ri', rl', rfl, hxv, hq, by rw [ht]; exact hP', hout'⟩, hS'.F ht⟩) hS'.2.2 hd
      · rw [hn] at hrtc
        exact W.vret hx hb (hr.trans (dh_rtc4 hrtc)) (fun t ht hW => ⟨⟨none, none, ri', rl', rfl, trivial, hq, by rw [ht]; exact hP', hout'⟩, hS'.F ht⟩) hS'.2.2 hd
    have key := hw (fun b ls st h => ∀ t, mi.2.2.2.2.2.2.2.1[b]? = some t → dh_OK p l e (headSpec (dh_cw mi :: dh_B) (dh_rm (d + 1))).room s m ra.toArray below meth c (MQ below (dh_Qc adr ta D ri rl s.heap.size Qv) ra.toArray s 0 0 (va_A (dh_ws adr ta ri rl) s.heap.size)) adr ta D (va_A (dh_ws adr ta ri rl) s.heap.size) s.heap ri mi.2.2.1 0 0 t ls st h) (fun b ls st h hb t ht => dh_blk_sim F (fun q hq => Or.inr hq) (d := d) (by show d + 1 ≤ d + 1 ∧ 60 * d + 60 ≤ 60 * (d + 1); omega) ⟨Nat.zero_le _, Nat.zero_le _⟩ (dh_wpM_mono d) ih hRt (fun b ls st h q t ht => q t ht) _ t ls st h (dh_ckBs_at hck ht) hb)
    exact key 0 hbp0 _ _ _ _ hl trivial ⟨ri, rl, rfl, hP, hD, hS, fun _ _ => rfl⟩
