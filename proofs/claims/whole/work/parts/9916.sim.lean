/-- what comes behind a step -/
def dh_ct (OK : Nat → dh_LS → List dh_V → dh_AH → Prop) (bp : List Nat) (nx : Nat) (RQ : Option dh_V → dh_AH → Prop) (C : dh_C) : dh_O → Prop
  | .inl o => OK nx o.1 o.2.1 o.2.2
  | .inr (.inl o) => ∀ t, bp[o.1]? = some t → OK t o.2.1 o.2.2.1 o.2.2.2
  | .inr (.inr (.inl o)) => RQ o.1 o.2
  | .inr (.inr (.inr o)) => C o.1 o.2.1 o.2.2.2.2 (fun v h' => OK nx o.2.2.1 (v.toList ++ o.2.2.2.1) h')
theorem dh_shl_lt : dh_shl.all (fun x => decide (x.2.1 < 2147483648)) = true := by decide +kernel
theorem dh_sh_lt {q : Nat} {x : Nat × Nat × Nat × Nat} (h : dh_sh q = some x) : x.2.1 < 2147483648 := by
  have := List.all_eq_true.mp dh_shl_lt x (List.mem_of_getElem? h)
  simpa using this
/-- how a frame returns -/
def dh_Rt (p : Program) (l : Launch) (e : Env) (R : Room) (s : State) (m : MethodId) (args : Array Value) (below : List Frame) (meth : Method) (c : Code) (Q : State → Prop) (adr : Nat → Nat) (ta : Nat → ClassId) (D : va_G) (A : Nat → Prop) (H0 : Heap) (ri0 : Nat → Nat → Int32) (kc ks : Nat) (cc : ByteArray) (rtc : Nat) (RQ : Option dh_V → dh_AH → Prop) : Prop :=
  ∀ (pc : Nat) (rls : Array Slot) (H : Heap) (locs : List Loc) (h : dh_AH), dh_Rw adr ta D A H0 ri0 H locs h →
    (∀ n : Int32, (rtc = 0 ∨ rtc = 3 ∧ (n = 0 ∨ n = 1)) → decode cc pc = .ok (.ireturn, 1) → RQ (some (.inl n.toInt)) h → W p l e R s m args below meth c H locs kc ks Q (F0 m pc rls [.int n])) ∧
    (∀ n : Int64, rtc = 1 → decode cc pc = .ok (.lreturn, 1) → RQ (some (.inr (.inl n.toBitVec))) h → W p l e R s m args below meth c H locs kc ks Q (F0 m pc rls [.long n])) ∧
    (∀ (x : Value) (v : Option Nat), rtc = 2 → decode cc pc = .ok (.areturn, 1) → dh_rv adr x (.inr (.inr v)) → RQ (some (.inr (.inr v))) h → W p l e R s m args below meth c H locs kc ks Q (F0 m pc rls [x])) ∧
    (rtc = 4 → decode cc pc = .ok (.return_, 1) → RQ none h → W p l e R s m args below meth c H locs kc ks Q (F0 m pc rls []))
theorem dh_prs_at {bp : List Nat} {pc : Nat} : ∀ {ps : List (Int × Int)} {l : List (Int × Nat)} {d : Int} {b : Nat} (x : Int), dh_prs bp pc ps = some l → dh_tgt bp pc d = some b → ∃ off, Op.lookupswitch.offset ps d x = off ∧ dh_tgt bp pc off = some (dh_sw l b x)
  | [], l, d, b, x, h, hd => by
    cases h
    exact ⟨d, rfl, hd⟩
  | (k, o) :: t, l, d, b, x, h, hd => by
    unfold dh_prs at h
    split at h
    · rename_i b' l' h1 h2
      cases h
      by_cases e : x = k
      · refine ⟨o, ?_, ?_⟩
        · simp [Op.lookupswitch.offset, e]
        · simp [dh_sw, e, h1]
      · obtain ⟨off, g1, g2⟩ := dh_prs_at x h2 hd
        refine ⟨off, ?_, ?_⟩
        · simp [Op.lookupswitch.offset, e, g1, Ne.symm e]
        · simp [dh_sw, e, g2]
    · cases h
theorem dh_lows_at {bp : List Nat} {pc : Nat} : ∀ {os : List Int} {l : List (Int × Nat)} {b : Nat} (lo x : Int), dh_prs bp pc (dh_lows lo os) = some l →
    ((x < lo ∨ lo + os.length ≤ x) → dh_sw l b x = b) ∧ (lo ≤ x → x < lo + os.length → ∃ off, os[(x - lo).toNat]? = some off ∧ dh_tgt bp pc off = some (dh_sw l b x))
  | [], l, b, lo, x, h => by
    cases h
    refine ⟨fun _ => rfl, fun h1 h2 => ?_⟩
    simp only [List.length_nil] at h2
    omega
  | o :: t, l, b, lo, x, h => by
    simp only [dh_lows] at h
    unfold dh_prs at h
    split at h
    · rename_i b' l' h1 h2
      cases h
      obtain ⟨g1, g2⟩ := dh_lows_at (b := b) (lo + 1) x h2
      refine ⟨fun hx => ?_, fun hx1 hx2 => ?_⟩
      · have e : ¬ x = lo := by
          rcases hx with hx | hx
          · omega
          · simp only [List.length_cons] at hx
            omega
        simp only [dh_sw, if_neg e]
        apply g1
        rcases hx with hx | hx
        · exact Or.inl (by omega)
        · exact Or.inr (by simp only [List.length_cons] at hx; omega)
      · by_cases e : x = lo
        · refine ⟨o, ?_, ?_⟩
          · rw [e]; simp
          · simp [dh_sw, e, h1]
        · obtain ⟨off, k1, k2⟩ := g2 (by omega) (by simp only [List.length_cons] at hx2; omega)
          refine ⟨off, ?_, ?_⟩
          · rw [show (x - lo).toNat = (x - (lo + 1)).toNat + 1 by omega]
            simpa using k1
          · simpa [dh_sw, e] using k2
    · cases h
section DHX
variable {p : Program} {l : Launch} {e : Env} {R : Room} {s : State} {m : MethodId} {args : Array Value} {below : List Frame} {meth : Method} {c : Code} {Q : State → Prop}
variable {cc : ByteArray} {nL own : Nat} {adr : Nat → Nat} {ta : Nat → ClassId} {D : va_G} {A : Nat → Prop} {H0 : Heap} {ri0 : Nat → Nat → Int32} {sh : Nat → Option (Nat × Nat × Nat × Nat)} {kc ks : Nat}
theorem dh_step_iload (F : dh_Fx p s m args c cc nL own D ta A adr H0 ri0 sh) {d : Nat} (hA : ∀ q, H0.size ≤ q → A q) (hRm : d + 1 ≤ R.frames ∧ 60 * d + 60 ≤ R.locals) (hkc : kc ≤ R.cells ∧ ks ≤ R.slots) {C : dh_C} (hC : ∀ mn as h Qv, C mn as h Qv → dh_Mt l d mn as h Qv) {bp : List Nat} {rtc : Nat} {RQ : Option dh_V → dh_AH → Prop} (hRt : dh_Rt p l e R s m args below meth c Q adr ta D A H0 ri0 kc ks cc rtc RQ) {pc len : Nat} {r : dh_RI} {k : Nat} {ls : dh_LS} {st : List dh_V} {h : dh_AH} {o : dh_O} (hd : decode cc pc = .ok (.iload k, len)) (ht : dh_tr nL rtc own bp pc (.iload k) len = some r) (ho : dh_do sh r ls st h = some o) (hk : dh_ct (dh_OK p l e R s m args below meth c Q adr ta D A H0 ri0 nL kc ks) bp (pc + len) RQ C o) : dh_OK p l e R s m args below meth c Q adr ta D A H0 ri0 nL kc ks pc ls st h := by
  simp only [dh_tr, dh_ri] at ht
  split at ht
  · rename_i hlen
    cases ht
    subst hlen
    simp only [dh_do] at ho
    split at ho
    · cases ho
      exact dh_s_iload F (by assumption) hd hk
    · cases ho
  · cases ht
theorem dh_step_iload_n (F : dh_Fx p s m args c cc nL own D ta A adr H0 ri0 sh) {d : Nat} (hA : ∀ q, H0.size ≤ q → A q) (hRm : d + 1 ≤ R.frames ∧ 60 * d + 60 ≤ R.locals) (hkc : kc ≤ R.cells ∧ ks ≤ R.slots) {C : dh_C} (hC : ∀ mn as h Qv, C mn as h Qv → dh_Mt l d mn as h Qv) {bp : List Nat} {rtc : Nat} {RQ : Option dh_V → dh_AH → Prop} (hRt : dh_Rt p l e R s m args below meth c Q adr ta D A H0 ri0 kc ks cc rtc RQ) {pc len : Nat} {r : dh_RI} {k : Fin 4} {ls : dh_LS} {st : List dh_V} {h : dh_AH} {o : dh_O} (hd : decode cc pc = .ok (.iload_n k, len)) (ht : dh_tr nL rtc own bp pc (.iload_n k) len = some r) (ho : dh_do sh r ls st h = some o) (hk : dh_ct (dh_OK p l e R s m args below meth c Q adr ta D A H0 ri0 nL kc ks) bp (pc + len) RQ C o) : dh_OK p l e R s m args below meth c Q adr ta D A H0 ri0 nL kc ks pc ls st h := by
  simp only [dh_tr, dh_ri] at ht
  split at ht
  · rename_i hlen
    cases ht
    subst hlen
    simp only [dh_do] at ho
    split at ho
    · cases ho
      exact dh_s_iload_n F (by assumption) hd hk
    · cases ho
  · cases ht
theorem dh_step_lload (F : dh_Fx p s m args c cc nL own D ta A adr H0 ri0 sh) {d : Nat} (hA : ∀ q, H0.size ≤ q → A q) (hRm : d + 1 ≤ R.frames ∧ 60 * d + 60 ≤ R.locals) (hkc : kc ≤ R.cells ∧ ks ≤ R.slots) {C : dh_C} (hC : ∀ mn as h Qv, C mn as h Qv → dh_Mt l d mn as h Qv) {bp : List Nat} {rtc : Nat} {RQ : Option dh_V → dh_AH → Prop} (hRt : dh_Rt p l e R s m args below meth c Q adr ta D A H0 ri0 kc ks cc rtc RQ) {pc len : Nat} {r : dh_RI} {k : Nat} {ls : dh_LS} {st : List dh_V} {h : dh_AH} {o : dh_O} (hd : decode cc pc = .ok (.lload k, len)) (ht : dh_tr nL rtc own bp pc (.lload k) len = some r) (ho : dh_do sh r ls st h = some o) (hk : dh_ct (dh_OK p l e R s m args below meth c Q adr ta D A H0 ri0 nL kc ks) bp (pc + len) RQ C o) : dh_OK p l e R s m args below meth c Q adr ta D A H0 ri0 nL kc ks pc ls st h := by
  simp only [dh_tr, dh_ri] at ht
  split at ht
  · rename_i hlen
    cases ht
    subst hlen
    simp only [dh_do] at ho
    split at ho
    · cases ho
      exact dh_s_lload F (by assumption) hd hk
    · cases ho
  · cases ht
theorem dh_step_lload_n (F : dh_Fx p s m args c cc nL own D ta A adr H0 ri0 sh) {d : Nat} (hA : ∀ q, H0.size ≤ q → A q) (hRm : d + 1 ≤ R.frames ∧ 60 * d + 60 ≤ R.locals) (hkc : kc ≤ R.cells ∧ ks ≤ R.slots) {C : dh_C} (hC : ∀ mn as h Qv, C mn as h Qv → dh_Mt l d mn as h Qv) {bp : List Nat} {rtc : Nat} {RQ : Option dh_V → dh_AH → Prop} (hRt : dh_Rt p l e R s m args below meth c Q adr ta D A H0 ri0 kc ks cc rtc RQ) {pc len : Nat} {r : dh_RI} {k : Fin 4} {ls : dh_LS} {st : List dh_V} {h : dh_AH} {o : dh_O} (hd : decode cc pc = .ok (.lload_n k, len)) (ht : dh_tr nL rtc own bp pc (.lload_n k) len = some r) (ho : dh_do sh r ls st h = some o) (hk : dh_ct (dh_OK p l e R s m args below meth c Q adr ta D A H0 ri0 nL kc ks) bp (pc + len) RQ C o) : dh_OK p l e R s m args below meth c Q adr ta D A H0 ri0 nL kc ks pc ls st h := by
  simp only [dh_tr, dh_ri] at ht
  split at ht
  · rename_i hlen
    cases ht
    subst hlen
    simp only [dh_do] at ho
    split at ho
    · cases ho
      exact dh_s_lload_n F (by assumption) hd hk
    · cases ho
  · cases ht
theorem dh_step_aload (F : dh_Fx p s m args c cc nL own D ta A adr H0 ri0 sh) {d : Nat} (hA : ∀ q, H0.size ≤ q → A q) (hRm : d + 1 ≤ R.frames ∧ 60 * d + 60 ≤ R.locals) (hkc : kc ≤ R.cells ∧ ks ≤ R.slots) {C : dh_C} (hC : ∀ mn as h Qv, C mn as h Qv → dh_Mt l d mn as h Qv) {bp : List Nat} {rtc : Nat} {RQ : Option dh_V → dh_AH → Prop} (hRt : dh_Rt p l e R s m args below meth c Q adr ta D A H0 ri0 kc ks cc rtc RQ) {pc len : Nat} {r : dh_RI} {k : Nat} {ls : dh_LS} {st : List dh_V} {h : dh_AH} {o : dh_O} (hd : decode cc pc = .ok (.aload k, len)) (ht : dh_tr nL rtc own bp pc (.aload k) len = some r) (ho : dh_do sh r ls st h = some o) (hk : dh_ct (dh_OK p l e R s m args below meth c Q adr ta D A H0 ri0 nL kc ks) bp (pc + len) RQ C o) : dh_OK p l e R s m args below meth c Q adr ta D A H0 ri0 nL kc ks pc ls st h := by
  simp only [dh_tr, dh_ri] at ht
  split at ht
  · rename_i hlen
    cases ht
    subst hlen
    simp only [dh_do] at ho
    split at ho
    · cases ho
      exact dh_s_aload F (by assumption) hd hk
    · cases ho
  · cases ht
theorem dh_step_aload_n (F : dh_Fx p s m args c cc nL own D ta A adr H0 ri0 sh) {d : Nat} (hA : ∀ q, H0.size ≤ q → A q) (hRm : d + 1 ≤ R.frames ∧ 60 * d + 60 ≤ R.locals) (hkc : kc ≤ R.cells ∧ ks ≤ R.slots) {C : dh_C} (hC : ∀ mn as h Qv, C mn as h Qv → dh_Mt l d mn as h Qv) {bp : List Nat} {rtc : Nat} {RQ : Option dh_V → dh_AH → Prop} (hRt : dh_Rt p l e R s m args below meth c Q adr ta D A H0 ri0 kc ks cc rtc RQ) {pc len : Nat} {r : dh_RI} {k : Fin 4} {ls : dh_LS} {st : List dh_V} {h : dh_AH} {o : dh_O} (hd : decode cc pc = .ok (.aload_n k, len)) (ht : dh_tr nL rtc own bp pc (.aload_n k) len = some r) (ho : dh_do sh r ls st h = some o) (hk : dh_ct (dh_OK p l e R s m args below meth c Q adr ta D A H0 ri0 nL kc ks) bp (pc + len) RQ C o) : dh_OK p l e R s m args below meth c Q adr ta D A H0 ri0 nL kc ks pc ls st h := by
  simp only [dh_tr, dh_ri] at ht
  split at ht
  · rename_i hlen
    cases ht
    subst hlen
    simp only [dh_do] at ho
    split at ho
    · cases ho
      exact dh_s_aload_n F (by assumption) hd hk
    · cases ho
  · cases ht
theorem dh_step_istore (F : dh_Fx p s m args c cc nL own D ta A adr H0 ri0 sh) {d : Nat} (hA : ∀ q, H0.size ≤ q → A q) (hRm : d + 1 ≤ R.frames ∧ 60 * d + 60 ≤ R.locals) (hkc : kc ≤ R.cells ∧ ks ≤ R.slots) {C : dh_C} (hC : ∀ mn as h Qv, C mn as h Qv → dh_Mt l d mn as h Qv) {bp : List Nat} {rtc : Nat} {RQ : Option dh_V → dh_AH → Prop} (hRt : dh_Rt p l e R s m args below meth c Q adr ta D A H0 ri0 kc ks cc rtc RQ) {pc len : Nat} {r : dh_RI} {k : Nat} {ls : dh_LS} {st : List dh_V} {h : dh_AH} {o : dh_O} (hd : decode cc pc = .ok (.istore k, len)) (ht : dh_tr nL rtc own bp pc (.istore k) len = some r) (ho : dh_do sh r ls st h = some o) (hk : dh_ct (dh_OK p l e R s m args below meth c Q adr ta D A H0 ri0 nL kc ks) bp (pc + len) RQ C o) : dh_OK p l e R s m args below meth c Q adr ta D A H0 ri0 nL kc ks pc ls st h := by
  simp only [dh_tr, dh_ri] at ht
  split at ht
  · rename_i hcnd
    split at ht
    · rename_i hlen
      cases ht
      subst hlen
      simp only [dh_do] at ho
      split at ho
      · cases ho
        exact dh_s_istore F hcnd hd hk
      · cases ho
    · cases ht
  · cases ht
theorem dh_step_istore_n (F : dh_Fx p s m args c cc nL own D ta A adr H0 ri0 sh) {d : Nat} (hA : ∀ q, H0.size ≤ q → A q) (hRm : d + 1 ≤ R.frames ∧ 60 * d + 60 ≤ R.locals) (hkc : kc ≤ R.cells ∧ ks ≤ R.slots) {C : dh_C} (hC : ∀ mn as h Qv, C mn as h Qv → dh_Mt l d mn as h Qv) {bp : List Nat} {rtc : Nat} {RQ : Option dh_V → dh_AH → Prop} (hRt : dh_Rt p l e R s m args below meth c Q adr ta D A H0 ri0 kc ks cc rtc RQ) {pc len : Nat} {r : dh_RI} {k : Fin 4} {ls : dh_LS} {st : List dh_V} {h : dh_AH} {o : dh_O} (hd : decode cc pc = .ok (.istore_n k, len)) (ht : dh_tr nL rtc own bp pc (.istore_n k) len = some r) (ho : dh_do sh r ls st h = some o) (hk : dh_ct (dh_OK p l e R s m args below meth c Q adr ta D A H0 ri0 nL kc ks) bp (pc + len) RQ C o) : dh_OK p l e R s m args below meth c Q adr ta D A H0 ri0 nL kc ks pc ls st h := by
  simp only [dh_tr, dh_ri] at ht
  split at ht
  · rename_i hcnd
    split at ht
    · rename_i hlen
      cases ht
      subst hlen
      simp only [dh_do] at ho
      split at ho
      · cases ho
        exact dh_s_istore_n F hcnd hd hk
      · cases ho
    · cases ht
  · cases ht
theorem dh_step_astore (F : dh_Fx p s m args c cc nL own D ta A adr H0 ri0 sh) {d : Nat} (hA : ∀ q, H0.size ≤ q → A q) (hRm : d + 1 ≤ R.frames ∧ 60 * d + 60 ≤ R.locals) (hkc : kc ≤ R.cells ∧ ks ≤ R.slots) {C : dh_C} (hC : ∀ mn as h Qv, C mn as h Qv → dh_Mt l d mn as h Qv) {bp : List Nat} {rtc : Nat} {RQ : Option dh_V → dh_AH → Prop} (hRt : dh_Rt p l e R s m args below meth c Q adr ta D A H0 ri0 kc ks cc rtc RQ) {pc len : Nat} {r : dh_RI} {k : Nat} {ls : dh_LS} {st : List dh_V} {h : dh_AH} {o : dh_O} (hd : decode cc pc = .ok (.astore k, len)) (ht : dh_tr nL rtc own bp pc (.astore k) len = some r) (ho : dh_do sh r ls st h = some o) (hk : dh_ct (dh_OK p l e R s m args below meth c Q adr ta D A H0 ri0 nL kc ks) bp (pc + len) RQ C o) : dh_OK p l e R s m args below meth c Q adr ta D A H0 ri0 nL kc ks pc ls st h := by
  simp only [dh_tr, dh_ri] at ht
  split at ht
  · rename_i hcnd
    split at ht
    · rename_i hlen
      cases ht
      subst hlen
      simp only [dh_do] at ho
      split at ho
      · cases ho
        exact dh_s_astore F hcnd hd hk
      · cases ho
    · cases ht
  · cases ht
theorem dh_step_astore_n (F : dh_Fx p s m args c cc nL own D ta A adr H0 ri0 sh) {d : Nat} (hA : ∀ q, H0.size ≤ q → A q) (hRm : d + 1 ≤ R.frames ∧ 60 * d + 60 ≤ R.locals) (hkc : kc ≤ R.cells ∧ ks ≤ R.slots) {C : dh_C} (hC : ∀ mn as h Qv, C mn as h Qv → dh_Mt l d mn as h Qv) {bp : List Nat} {rtc : Nat} {RQ : Option dh_V → dh_AH → Prop} (hRt : dh_Rt p l e R s m args below meth c Q adr ta D A H0 ri0 kc ks cc rtc RQ) {pc len : Nat} {r : dh_RI} {k : Fin 4} {ls : dh_LS} {st : List dh_V} {h : dh_AH} {o : dh_O} (hd : decode cc pc = .ok (.astore_n k, len)) (ht : dh_tr nL rtc own bp pc (.astore_n k) len = some r) (ho : dh_do sh r ls st h = some o) (hk : dh_ct (dh_OK p l e R s m args below meth c Q adr ta D A H0 ri0 nL kc ks) bp (pc + len) RQ C o) : dh_OK p l e R s m args below meth c Q adr ta D A H0 ri0 nL kc ks pc ls st h := by
  simp only [dh_tr, dh_ri] at ht
  split at ht
  · rename_i hcnd
    split at ht
    · rename_i hlen
      cases ht
      subst hlen
      simp only [dh_do] at ho
      split at ho
      · cases ho
        exact dh_s_astore_n F hcnd hd hk
      · cases ho
    · cases ht
  · cases ht
theorem dh_step_lstore (F : dh_Fx p s m args c cc nL own D ta A adr H0 ri0 sh) {d : Nat} (hA : ∀ q, H0.size ≤ q → A q) (hRm : d + 1 ≤ R.frames ∧ 60 * d + 60 ≤ R.locals) (hkc : kc ≤ R.cells ∧ ks ≤ R.slots) {C : dh_C} (hC : ∀ mn as h Qv, C mn as h Qv → dh_Mt l d mn as h Qv) {bp : List Nat} {rtc : Nat} {RQ : Option dh_V → dh_AH → Prop} (hRt : dh_Rt p l e R s m args below meth c Q adr ta D A H0 ri0 kc ks cc rtc RQ) {pc len : Nat} {r : dh_RI} {k : Nat} {ls : dh_LS} {st : List dh_V} {h : dh_AH} {o : dh_O} (hd : decode cc pc = .ok (.lstore k, len)) (ht : dh_tr nL rtc own bp pc (.lstore k) len = some r) (ho : dh_do sh r ls st h = some o) (hk : dh_ct (dh_OK p l e R s m args below meth c Q adr ta D A H0 ri0 nL kc ks) bp (pc + len) RQ C o) : dh_OK p l e R s m args below meth c Q adr ta D A H0 ri0 nL kc ks pc ls st h := by
  simp only [dh_tr, dh_ri] at ht
  split at ht
  · rename_i hcnd
    split at ht
    · rename_i hlen
      cases ht
      subst hlen
      simp only [dh_do] at ho
      split at ho
      · cases ho
        exact dh_s_lstore F hcnd hd hk
      · cases ho
    · cases ht
  · cases ht
theorem dh_step_lstore_n (F : dh_Fx p s m args c cc nL own D ta A adr H0 ri0 sh) {d : Nat} (hA : ∀ q, H0.size ≤ q → A q) (hRm : d + 1 ≤ R.frames ∧ 60 * d + 60 ≤ R.locals) (hkc : kc ≤ R.cells ∧ ks ≤ R.slots) {C : dh_C} (hC : ∀ mn as h Qv, C mn as h Qv → dh_Mt l d mn as h Qv) {bp : List Nat} {rtc : Nat} {RQ : Option dh_V → dh_AH → Prop} (hRt : dh_Rt p l e R s m args below meth c Q adr ta D A H0 ri0 kc ks cc rtc RQ) {pc len : Nat} {r : dh_RI} {k : Fin 4} {ls : dh_LS} {st : List dh_V} {h : dh_AH} {o : dh_O} (hd : decode cc pc = .ok (.lstore_n k, len)) (ht : dh_tr nL rtc own bp pc (.lstore_n k) len = some r) (ho : dh_do sh r ls st h = some o) (hk : dh_ct (dh_OK p l e R s m args below meth c Q adr ta D A H0 ri0 nL kc ks) bp (pc + len) RQ C o) : dh_OK p l e R s m args below meth c Q adr ta D A H0 ri0 nL kc ks pc ls st h := by
  simp only [dh_tr, dh_ri] at ht
  split at ht
  · rename_i hcnd
    split at ht
    · rename_i hlen
      cases ht
      subst hlen
      simp only [dh_do] at ho
      split at ho
      · cases ho
        exact dh_s_lstore_n F hcnd hd hk
      · cases ho
    · cases ht
  · cases ht
theorem dh_step_iconst (F : dh_Fx p s m args c cc nL own D ta A adr H0 ri0 sh) {d : Nat} (hA : ∀ q, H0.size ≤ q → A q) (hRm : d + 1 ≤ R.frames ∧ 60 * d + 60 ≤ R.locals) (hkc : kc ≤ R.cells ∧ ks ≤ R.slots) {C : dh_C} (hC : ∀ mn as h Qv, C mn as h Qv → dh_Mt l d mn as h Qv) {bp : List Nat} {rtc : Nat} {RQ : Option dh_V → dh_AH → Prop} (hRt : dh_Rt p l e R s m args below meth c Q adr ta D A H0 ri0 kc ks cc rtc RQ) {pc len : Nat} {r : dh_RI} {n : Int} {ls : dh_LS} {st : List dh_V} {h : dh_AH} {o : dh_O} (hd : decode cc pc = .ok (.iconst n, len)) (ht : dh_tr nL rtc own bp pc (.iconst n) len = some r) (ho : dh_do sh r ls st h = some o) (hk : dh_ct (dh_OK p l e R s m args below meth c Q adr ta D A H0 ri0 nL kc ks) bp (pc + len) RQ C o) : dh_OK p l e R s m args below meth c Q adr ta D A H0 ri0 nL kc ks pc ls st h := by
  simp only [dh_tr, dh_ri] at ht
  split at ht
  · rename_i hcnd
    split at ht
    · rename_i hlen
      cases ht
      subst hlen
      simp only [dh_do] at ho
      cases ho
      exact dh_s_iconst F hcnd hd hk
    · cases ht
  · cases ht
theorem dh_step_bipush (F : dh_Fx p s m args c cc nL own D ta A adr H0 ri0 sh) {d : Nat} (hA : ∀ q, H0.size ≤ q → A q) (hRm : d + 1 ≤ R.frames ∧ 60 * d + 60 ≤ R.locals) (hkc : kc ≤ R.cells ∧ ks ≤ R.slots) {C : dh_C} (hC : ∀ mn as h Qv, C mn as h Qv → dh_Mt l d mn as h Qv) {bp : List Nat} {rtc : Nat} {RQ : Option dh_V → dh_AH → Prop} (hRt : dh_Rt p l e R s m args below meth c Q adr ta D A H0 ri0 kc ks cc rtc RQ) {pc len : Nat} {r : dh_RI} {n : Int} {ls : dh_LS} {st : List dh_V} {h : dh_AH} {o : dh_O} (hd : decode cc pc = .ok (.bipush n, len)) (ht : dh_tr nL rtc own bp pc (.bipush n) len = some r) (ho : dh_do sh r ls st h = some o) (hk : dh_ct (dh_OK p l e R s m args below meth c Q adr ta D A H0 ri0 nL kc ks) bp (pc + len) RQ C o) : dh_OK p l e R s m args below meth c Q adr ta D A H0 ri0 nL kc ks pc ls st h := by
  simp only [dh_tr, dh_ri] at ht
  split at ht
  · rename_i hcnd
    split at ht
    · rename_i hlen
      cases ht
      subst hlen
      simp only [dh_do] at ho
      cases ho
      exact dh_s_bipush F hcnd hd hk
    · cases ht
  · cases ht
theorem dh_step_sipush (F : dh_Fx p s m args c cc nL own D ta A adr H0 ri0 sh) {d : Nat} (hA : ∀ q, H0.size ≤ q → A q) (hRm : d + 1 ≤ R.frames ∧ 60 * d + 60 ≤ R.locals) (hkc : kc ≤ R.cells ∧ ks ≤ R.slots) {C : dh_C} (hC : ∀ mn as h Qv, C mn as h Qv → dh_Mt l d mn as h Qv) {bp : List Nat} {rtc : Nat} {RQ : Option dh_V → dh_AH → Prop} (hRt : dh_Rt p l e R s m args below meth c Q adr ta D A H0 ri0 kc ks cc rtc RQ) {pc len : Nat} {r : dh_RI} {n : Int} {ls : dh_LS} {st : List dh_V} {h : dh_AH} {o : dh_O} (hd : decode cc pc = .ok (.sipush n, len)) (ht : dh_tr nL rtc own bp pc (.sipush n) len = some r) (ho : dh_do sh r ls st h = some o) (hk : dh_ct (dh_OK p l e R s m args below meth c Q adr ta D A H0 ri0 nL kc ks) bp (pc + len) RQ C o) : dh_OK p l e R s m args below meth c Q adr ta D A H0 ri0 nL kc ks pc ls st h := by
  simp only [dh_tr, dh_ri] at ht
  split at ht
  · rename_i hcnd
    split at ht
    · rename_i hlen
      cases ht
      subst hlen
      simp only [dh_do] at ho
      cases ho
      exact dh_s_sipush F hcnd hd hk
    · cases ht
  · cases ht
theorem dh_step_lconst (F : dh_Fx p s m args c cc nL own D ta A adr H0 ri0 sh) {d : Nat} (hA : ∀ q, H0.size ≤ q → A q) (hRm : d + 1 ≤ R.frames ∧ 60 * d + 60 ≤ R.locals) (hkc : kc ≤ R.cells ∧ ks ≤ R.slots) {C : dh_C} (hC : ∀ mn as h Qv, C mn as h Qv → dh_Mt l d mn as h Qv) {bp : List Nat} {rtc : Nat} {RQ : Option dh_V → dh_AH → Prop} (hRt : dh_Rt p l e R s m args below meth c Q adr ta D A H0 ri0 kc ks cc rtc RQ) {pc len : Nat} {r : dh_RI} {n : Fin 2} {ls : dh_LS} {st : List dh_V} {h : dh_AH} {o : dh_O} (hd : decode cc pc = .ok (.lconst n, len)) (ht : dh_tr nL rtc own bp pc (.lconst n) len = some r) (ho : dh_do sh r ls st h = some o) (hk : dh_ct (dh_OK p l e R s m args below meth c Q adr ta D A H0 ri0 nL kc ks) bp (pc + len) RQ C o) : dh_OK p l e R s m args below meth c Q adr ta D A H0 ri0 nL kc ks pc ls st h := by
  simp only [dh_tr, dh_ri] at ht
  split at ht
  · rename_i hlen
    cases ht
    subst hlen
    simp only [dh_do] at ho
    cases ho
    exact dh_s_lconst F hd hk
  · cases ht
theorem dh_step_ldc (F : dh_Fx p s m args c cc nL own D ta A adr H0 ri0 sh) {d : Nat} (hA : ∀ q, H0.size ≤ q → A q) (hRm : d + 1 ≤ R.frames ∧ 60 * d + 60 ≤ R.locals) (hkc : kc ≤ R.cells ∧ ks ≤ R.slots) {C : dh_C} (hC : ∀ mn as h Qv, C mn as h Qv → dh_Mt l d mn as h Qv) {bp : List Nat} {rtc : Nat} {RQ : Option dh_V → dh_AH → Prop} (hRt : dh_Rt p l e R s m args below meth c Q adr ta D A H0 ri0 kc ks cc rtc RQ) {pc len : Nat} {r : dh_RI} {idx : Nat} {ls : dh_LS} {st : List dh_V} {h : dh_AH} {o : dh_O} (hd : decode cc pc = .ok (.ldc idx, len)) (ht : dh_tr nL rtc own bp pc (.ldc idx) len = some r) (ho : dh_do sh r ls st h = some o) (hk : dh_ct (dh_OK p l e R s m args below meth c Q adr ta D A H0 ri0 nL kc ks) bp (pc + len) RQ C o) : dh_OK p l e R s m args below meth c Q adr ta D A H0 ri0 nL kc ks pc ls st h := by
  simp only [dh_tr] at ht
  cases hf : dh_cf own idx with
  | none => rw [hf] at ht; cases ht
  | some q =>
    obtain ⟨q1, q2, q3, q4⟩ := q
    rw [hf] at ht
    simp only [dh_ri] at ht
    split at ht
    · rename_i hlen
      cases ht
      subst hlen
      simp only [dh_do] at ho
      cases ho
      exact dh_s_ldc F hf hd hk
    · cases ht
theorem dh_step_ldc_w (F : dh_Fx p s m args c cc nL own D ta A adr H0 ri0 sh) {d : Nat} (hA : ∀ q, H0.size ≤ q → A q) (hRm : d + 1 ≤ R.frames ∧ 60 * d + 60 ≤ R.locals) (hkc : kc ≤ R.cells ∧ ks ≤ R.slots) {C : dh_C} (hC : ∀ mn as h Qv, C mn as h Qv → dh_Mt l d mn as h Qv) {bp : List Nat} {rtc : Nat} {RQ : Option dh_V → dh_AH → Prop} (hRt : dh_Rt p l e R s m args below meth c Q adr ta D A H0 ri0 kc ks cc rtc RQ) {pc len : Nat} {r : dh_RI} {idx : Nat} {ls : dh_LS} {st : List dh_V} {h : dh_AH} {o : dh_O} (hd : decode cc pc = .ok (.ldc_w idx, len)) (ht : dh_tr nL rtc own bp pc (.ldc_w idx) len = some r) (ho : dh_do sh r ls st h = some o) (hk : dh_ct (dh_OK p l e R s m args below meth c Q adr ta D A H0 ri0 nL kc ks) bp (pc + len) RQ C o) : dh_OK p l e R s m args below meth c Q adr ta D A H0 ri0 nL kc ks pc ls st h := by
  simp only [dh_tr] at ht
  cases hf : dh_cf own idx with
  | none => rw [hf] at ht; cases ht
  | some q =>
    obtain ⟨q1, q2, q3, q4⟩ := q
    rw [hf] at ht
    simp only [dh_ri] at ht
    split at ht
    · rename_i hlen
      cases ht
      subst hlen
      simp only [dh_do] at ho
      cases ho
      exact dh_s_ldcw F hf hd hk
    · cases ht
theorem dh_step_ldc2_w (F : dh_Fx p s m args c cc nL own D ta A adr H0 ri0 sh) {d : Nat} (hA : ∀ q, H0.size ≤ q → A q) (hRm : d + 1 ≤ R.frames ∧ 60 * d + 60 ≤ R.locals) (hkc : kc ≤ R.cells ∧ ks ≤ R.slots) {C : dh_C} (hC : ∀ mn as h Qv, C mn as h Qv → dh_Mt l d mn as h Qv) {bp : List Nat} {rtc : Nat} {RQ : Option dh_V → dh_AH → Prop} (hRt : dh_Rt p l e R s m args below meth c Q adr ta D A H0 ri0 kc ks cc rtc RQ) {pc len : Nat} {r : dh_RI} {idx : Nat} {ls : dh_LS} {st : List dh_V} {h : dh_AH} {o : dh_O} (hd : decode cc pc = .ok (.ldc2_w idx, len)) (ht : dh_tr nL rtc own bp pc (.ldc2_w idx) len = some r) (ho : dh_do sh r ls st h = some o) (hk : dh_ct (dh_OK p l e R s m args below meth c Q adr ta D A H0 ri0 nL kc ks) bp (pc + len) RQ C o) : dh_OK p l e R s m args below meth c Q adr ta D A H0 ri0 nL kc ks pc ls st h := by
  simp only [dh_tr] at ht
  cases hf : dh_lf own idx with
  | none => rw [hf] at ht; cases ht
  | some q =>
    obtain ⟨q1, q2, q3, q4⟩ := q
    rw [hf] at ht
    simp only [dh_ri] at ht
    split at ht
    · rename_i hlen
      cases ht
      subst hlen
      simp only [dh_do] at ho
      cases ho
      exact dh_s_ldc2 F hf hd hk
    · cases ht
theorem dh_step_iadd (F : dh_Fx p s m args c cc nL own D ta A adr H0 ri0 sh) {d : Nat} (hA : ∀ q, H0.size ≤ q → A q) (hRm : d + 1 ≤ R.frames ∧ 60 * d + 60 ≤ R.locals) (hkc : kc ≤ R.cells ∧ ks ≤ R.slots) {C : dh_C} (hC : ∀ mn as h Qv, C mn as h Qv → dh_Mt l d mn as h Qv) {bp : List Nat} {rtc : Nat} {RQ : Option dh_V → dh_AH → Prop} (hRt : dh_Rt p l e R s m args below meth c Q adr ta D A H0 ri0 kc ks cc rtc RQ) {pc len : Nat} {r : dh_RI}  {ls : dh_LS} {st : List dh_V} {h : dh_AH} {o : dh_O} (hd : decode cc pc = .ok (.iadd, len)) (ht : dh_tr nL rtc own bp pc (.iadd) len = some r) (ho : dh_do sh r ls st h = some o) (hk : dh_ct (dh_OK p l e R s m args below meth c Q adr ta D A H0 ri0 nL kc ks) bp (pc + len) RQ C o) : dh_OK p l e R s m args below meth c Q adr ta D A H0 ri0 nL kc ks pc ls st h := by
  simp only [dh_tr, dh_ri] at ht
  split at ht
  · rename_i hlen
    cases ht
    subst hlen
    simp only [dh_do] at ho
    split at ho
    · simp only [dh_iop] at ho
      cases ho
      exact dh_s_iadd F hd hk
    · cases ho
  · cases ht
theorem dh_step_isub (F : dh_Fx p s m args c cc nL own D ta A adr H0 ri0 sh) {d : Nat} (hA : ∀ q, H0.size ≤ q → A q) (hRm : d + 1 ≤ R.frames ∧ 60 * d + 60 ≤ R.locals) (hkc : kc ≤ R.cells ∧ ks ≤ R.slots) {C : dh_C} (hC : ∀ mn as h Qv, C mn as h Qv → dh_Mt l d mn as h Qv) {bp : List Nat} {rtc : Nat} {RQ : Option dh_V → dh_AH → Prop} (hRt : dh_Rt p l e R s m args below meth c Q adr ta D A H0 ri0 kc ks cc rtc RQ) {pc len : Nat} {r : dh_RI}  {ls : dh_LS} {st : List dh_V} {h : dh_AH} {o : dh_O} (hd : decode cc pc = .ok (.isub, len)) (ht : dh_tr nL rtc own bp pc (.isub) len = some r) (ho : dh_do sh r ls st h = some o) (hk : dh_ct (dh_OK p l e R s m args below meth c Q adr ta D A H0 ri0 nL kc ks) bp (pc + len) RQ C o) : dh_OK p l e R s m args below meth c Q adr ta D A H0 ri0 nL kc ks pc ls st h := by
  simp only [dh_tr, dh_ri] at ht
  split at ht
  · rename_i hlen
    cases ht
    subst hlen
    simp only [dh_do] at ho
    split at ho
    · simp only [dh_iop] at ho
      cases ho
      exact dh_s_isub F hd hk
    · cases ho
  · cases ht
theorem dh_step_imul (F : dh_Fx p s m args c cc nL own D ta A adr H0 ri0 sh) {d : Nat} (hA : ∀ q, H0.size ≤ q → A q) (hRm : d + 1 ≤ R.frames ∧ 60 * d + 60 ≤ R.locals) (hkc : kc ≤ R.cells ∧ ks ≤ R.slots) {C : dh_C} (hC : ∀ mn as h Qv, C mn as h Qv → dh_Mt l d mn as h Qv) {bp : List Nat} {rtc : Nat} {RQ : Option dh_V → dh_AH → Prop} (hRt : dh_Rt p l e R s m args below meth c Q adr ta D A H0 ri0 kc ks cc rtc RQ) {pc len : Nat} {r : dh_RI}  {ls : dh_LS} {st : List dh_V} {h : dh_AH} {o : dh_O} (hd : decode cc pc = .ok (.imul, len)) (ht : dh_tr nL rtc own bp pc (.imul) len = some r) (ho : dh_do sh r ls st h = some o) (hk : dh_ct (dh_OK p l e R s m args below meth c Q adr ta D A H0 ri0 nL kc ks) bp (pc + len) RQ C o) : dh_OK p l e R s m args below meth c Q adr ta D A H0 ri0 nL kc ks pc ls st h := by
  simp only [dh_tr, dh_ri] at ht
  split at ht
  · rename_i hlen
    cases ht
    subst hlen
    simp only [dh_do] at ho
    split at ho
    · simp only [dh_iop] at ho
      cases ho
      exact dh_s_imul F hd hk
    · cases ho
  · cases ht
theorem dh_step_iand (F : dh_Fx p s m args c cc nL own D ta A adr H0 ri0 sh) {d : Nat} (hA : ∀ q, H0.size ≤ q → A q) (hRm : d + 1 ≤ R.frames ∧ 60 * d + 60 ≤ R.locals) (hkc : kc ≤ R.cells ∧ ks ≤ R.slots) {C : dh_C} (hC : ∀ mn as h Qv, C mn as h Qv → dh_Mt l d mn as h Qv) {bp : List Nat} {rtc : Nat} {RQ : Option dh_V → dh_AH → Prop} (hRt : dh_Rt p l e R s m args below meth c Q adr ta D A H0 ri0 kc ks cc rtc RQ) {pc len : Nat} {r : dh_RI}  {ls : dh_LS} {st : List dh_V} {h : dh_AH} {o : dh_O} (hd : decode cc pc = .ok (.iand, len)) (ht : dh_tr nL rtc own bp pc (.iand) len = some r) (ho : dh_do sh r ls st h = some o) (hk : dh_ct (dh_OK p l e R s m args below meth c Q adr ta D A H0 ri0 nL kc ks) bp (pc + len) RQ C o) : dh_OK p l e R s m args below meth c Q adr ta D A H0 ri0 nL kc ks pc ls st h := by
  simp only [dh_tr, dh_ri] at ht
  split at ht
  · rename_i hlen
    cases ht
    subst hlen
    simp only [dh_do] at ho
    split at ho
    · simp only [dh_iop] at ho
      cases ho
      exact dh_s_iand F hd hk
    · cases ho
  · cases ht
theorem dh_step_ior (F : dh_Fx p s m args c cc nL own D ta A adr H0 ri0 sh) {d : Nat} (hA : ∀ q, H0.size ≤ q → A q) (hRm : d + 1 ≤ R.frames ∧ 60 * d + 60 ≤ R.locals) (hkc : kc ≤ R.cells ∧ ks ≤ R.slots) {C : dh_C} (hC : ∀ mn as h Qv, C mn as h Qv → dh_Mt l d mn as h Qv) {bp : List Nat} {rtc : Nat} {RQ : Option dh_V → dh_AH → Prop} (hRt : dh_Rt p l e R s m args below meth c Q adr ta D A H0 ri0 kc ks cc rtc RQ) {pc len : Nat} {r : dh_RI}  {ls : dh_LS} {st : List dh_V} {h : dh_AH} {o : dh_O} (hd : decode cc pc = .ok (.ior, len)) (ht : dh_tr nL rtc own bp pc (.ior) len = some r) (ho : dh_do sh r ls st h = some o) (hk : dh_ct (dh_OK p l e R s m args below meth c Q adr ta D A H0 ri0 nL kc ks) bp (pc + len) RQ C o) : dh_OK p l e R s m args below meth c Q adr ta D A H0 ri0 nL kc ks pc ls st h := by
  simp only [dh_tr, dh_ri] at ht
  split at ht
  · rename_i hlen
    cases ht
    subst hlen
    simp only [dh_do] at ho
    split at ho
    · simp only [dh_iop] at ho
      cases ho
      exact dh_s_ior F hd hk
    · cases ho
  · cases ht
theorem dh_step_ishl (F : dh_Fx p s m args c cc nL own D ta A adr H0 ri0 sh) {d : Nat} (hA : ∀ q, H0.size ≤ q → A q) (hRm : d + 1 ≤ R.frames ∧ 60 * d + 60 ≤ R.locals) (hkc : kc ≤ R.cells ∧ ks ≤ R.slots) {C : dh_C} (hC : ∀ mn as h Qv, C mn as h Qv → dh_Mt l d mn as h Qv) {bp : List Nat} {rtc : Nat} {RQ : Option dh_V → dh_AH → Prop} (hRt : dh_Rt p l e R s m args below meth c Q adr ta D A H0 ri0 kc ks cc rtc RQ) {pc len : Nat} {r : dh_RI}  {ls : dh_LS} {st : List dh_V} {h : dh_AH} {o : dh_O} (hd : decode cc pc = .ok (.ishl, len)) (ht : dh_tr nL rtc own bp pc (.ishl) len = some r) (ho : dh_do sh r ls st h = some o) (hk : dh_ct (dh_OK p l e R s m args below meth c Q adr ta D A H0 ri0 nL kc ks) bp (pc + len) RQ C o) : dh_OK p l e R s m args below meth c Q adr ta D A H0 ri0 nL kc ks pc ls st h := by
  simp only [dh_tr, dh_ri] at ht
  split at ht
  · rename_i hlen
    cases ht
    subst hlen
    simp only [dh_do] at ho
    split at ho
    · simp only [dh_iop] at ho
      cases ho
      exact dh_s_ishl F hd hk
    · cases ho
  · cases ht
theorem dh_step_ishr (F : dh_Fx p s m args c cc nL own D ta A adr H0 ri0 sh) {d : Nat} (hA : ∀ q, H0.size ≤ q → A q) (hRm : d + 1 ≤ R.frames ∧ 60 * d + 60 ≤ R.locals) (hkc : kc ≤ R.cells ∧ ks ≤ R.slots) {C : dh_C} (hC : ∀ mn as h Qv, C mn as h Qv → dh_Mt l d mn as h Qv) {bp : List Nat} {rtc : Nat} {RQ : Option dh_V → dh_AH → Prop} (hRt : dh_Rt p l e R s m args below meth c Q adr ta D A H0 ri0 kc ks cc rtc RQ) {pc len : Nat} {r : dh_RI}  {ls : dh_LS} {st : List dh_V} {h : dh_AH} {o : dh_O} (hd : decode cc pc = .ok (.ishr, len)) (ht : dh_tr nL rtc own bp pc (.ishr) len = some r) (ho : dh_do sh r ls st h = some o) (hk : dh_ct (dh_OK p l e R s m args below meth c Q adr ta D A H0 ri0 nL kc ks) bp (pc + len) RQ C o) : dh_OK p l e R s m args below meth c Q adr ta D A H0 ri0 nL kc ks pc ls st h := by
  simp only [dh_tr, dh_ri] at ht
  split at ht
  · rename_i hlen
    cases ht
    subst hlen
    simp only [dh_do] at ho
    split at ho
    · simp only [dh_iop] at ho
      cases ho
      exact dh_s_ishr F hd hk
    · cases ho
  · cases ht
theorem dh_step_iushr (F : dh_Fx p s m args c cc nL own D ta A adr H0 ri0 sh) {d : Nat} (hA : ∀ q, H0.size ≤ q → A q) (hRm : d + 1 ≤ R.frames ∧ 60 * d + 60 ≤ R.locals) (hkc : kc ≤ R.cells ∧ ks ≤ R.slots) {C : dh_C} (hC : ∀ mn as h Qv, C mn as h Qv → dh_Mt l d mn as h Qv) {bp : List Nat} {rtc : Nat} {RQ : Option dh_V → dh_AH → Prop} (hRt : dh_Rt p l e R s m args below meth c Q adr ta D A H0 ri0 kc ks cc rtc RQ) {pc len : Nat} {r : dh_RI}  {ls : dh_LS} {st : List dh_V} {h : dh_AH} {o : dh_O} (hd : decode cc pc = .ok (.iushr, len)) (ht : dh_tr nL rtc own bp pc (.iushr) len = some r) (ho : dh_do sh r ls st h = some o) (hk : dh_ct (dh_OK p l e R s m args below meth c Q adr ta D A H0 ri0 nL kc ks) bp (pc + len) RQ C o) : dh_OK p l e R s m args below meth c Q adr ta D A H0 ri0 nL kc ks pc ls st h := by
  simp only [dh_tr, dh_ri] at ht
  split at ht
  · rename_i hlen
    cases ht
    subst hlen
    simp only [dh_do] at ho
    split at ho
    · simp only [dh_iop] at ho
      cases ho
      exact dh_s_iushr F hd hk
    · cases ho
  · cases ht
theorem dh_step_ladd (F : dh_Fx p s m args c cc nL own D ta A adr H0 ri0 sh) {d : Nat} (hA : ∀ q, H0.size ≤ q → A q) (hRm : d + 1 ≤ R.frames ∧ 60 * d + 60 ≤ R.locals) (hkc : kc ≤ R.cells ∧ ks ≤ R.slots) {C : dh_C} (hC : ∀ mn as h Qv, C mn as h Qv → dh_Mt l d mn as h Qv) {bp : List Nat} {rtc : Nat} {RQ : Option dh_V → dh_AH → Prop} (hRt : dh_Rt p l e R s m args below meth c Q adr ta D A H0 ri0 kc ks cc rtc RQ) {pc len : Nat} {r : dh_RI}  {ls : dh_LS} {st : List dh_V} {h : dh_AH} {o : dh_O} (hd : decode cc pc = .ok (.ladd, len)) (ht : dh_tr nL rtc own bp pc (.ladd) len = some r) (ho : dh_do sh r ls st h = some o) (hk : dh_ct (dh_OK p l e R s m args below meth c Q adr ta D A H0 ri0 nL kc ks) bp (pc + len) RQ C o) : dh_OK p l e R s m args below meth c Q adr ta D A H0 ri0 nL kc ks pc ls st h := by
  simp only [dh_tr, dh_ri] at ht
  split at ht
  · rename_i hlen
    cases ht
    subst hlen
    simp only [dh_do] at ho
    split at ho
    · simp only [dh_lop] at ho
      cases ho
      exact dh_s_ladd F hd hk
    · cases ho
  · cases ht
theorem dh_step_lsub (F : dh_Fx p s m args c cc nL own D ta A adr H0 ri0 sh) {d : Nat} (hA : ∀ q, H0.size ≤ q → A q) (hRm : d + 1 ≤ R.frames ∧ 60 * d + 60 ≤ R.locals) (hkc : kc ≤ R.cells ∧ ks ≤ R.slots) {C : dh_C} (hC : ∀ mn as h Qv, C mn as h Qv → dh_Mt l d mn as h Qv) {bp : List Nat} {rtc : Nat} {RQ : Option dh_V → dh_AH → Prop} (hRt : dh_Rt p l e R s m args below meth c Q adr ta D A H0 ri0 kc ks cc rtc RQ) {pc len : Nat} {r : dh_RI}  {ls : dh_LS} {st : List dh_V} {h : dh_AH} {o : dh_O} (hd : decode cc pc = .ok (.lsub, len)) (ht : dh_tr nL rtc own bp pc (.lsub) len = some r) (ho : dh_do sh r ls st h = some o) (hk : dh_ct (dh_OK p l e R s m args below meth c Q adr ta D A H0 ri0 nL kc ks) bp (pc + len) RQ C o) : dh_OK p l e R s m args below meth c Q adr ta D A H0 ri0 nL kc ks pc ls st h := by
  simp only [dh_tr, dh_ri] at ht
  split at ht
  · rename_i hlen
    cases ht
    subst hlen
    simp only [dh_do] at ho
    split at ho
    · simp only [dh_lop] at ho
      cases ho
      exact dh_s_lsub F hd hk
    · cases ho
  · cases ht
theorem dh_step_lmul (F : dh_Fx p s m args c cc nL own D ta A adr H0 ri0 sh) {d : Nat} (hA : ∀ q, H0.size ≤ q → A q) (hRm : d + 1 ≤ R.frames ∧ 60 * d + 60 ≤ R.locals) (hkc : kc ≤ R.cells ∧ ks ≤ R.slots) {C : dh_C} (hC : ∀ mn as h Qv, C mn as h Qv → dh_Mt l d mn as h Qv) {bp : List Nat} {rtc : Nat} {RQ : Option dh_V → dh_AH → Prop} (hRt : dh_Rt p l e R s m args below meth c Q adr ta D A H0 ri0 kc ks cc rtc RQ) {pc len : Nat} {r : dh_RI}  {ls : dh_LS} {st : List dh_V} {h : dh_AH} {o : dh_O} (hd : decode cc pc = .ok (.lmul, len)) (ht : dh_tr nL rtc own bp pc (.lmul) len = some r) (ho : dh_do sh r ls st h = some o) (hk : dh_ct (dh_OK p l e R s m args below meth c Q adr ta D A H0 ri0 nL kc ks) bp (pc + len) RQ C o) : dh_OK p l e R s m args below meth c Q adr ta D A H0 ri0 nL kc ks pc ls st h := by
  simp only [dh_tr, dh_ri] at ht
  split at ht
  · rename_i hlen
    cases ht
    subst hlen
    simp only [dh_do] at ho
    split at ho
    · simp only [dh_lop] at ho
      cases ho
      exact dh_s_lmul F hd hk
    · cases ho
  · cases ht
theorem dh_step_land (F : dh_Fx p s m args c cc nL own D ta A adr H0 ri0 sh) {d : Nat} (hA : ∀ q, H0.size ≤ q → A q) (hRm : d + 1 ≤ R.frames ∧ 60 * d + 60 ≤ R.locals) (hkc : kc ≤ R.cells ∧ ks ≤ R.slots) {C : dh_C} (hC : ∀ mn as h Qv, C mn as h Qv → dh_Mt l d mn as h Qv) {bp : List Nat} {rtc : Nat} {RQ : Option dh_V → dh_AH → Prop} (hRt : dh_Rt p l e R s m args below meth c Q adr ta D A H0 ri0 kc ks cc rtc RQ) {pc len : Nat} {r : dh_RI}  {ls : dh_LS} {st : List dh_V} {h : dh_AH} {o : dh_O} (hd : decode cc pc = .ok (.land, len)) (ht : dh_tr nL rtc own bp pc (.land) len = some r) (ho : dh_do sh r ls st h = some o) (hk : dh_ct (dh_OK p l e R s m args below meth c Q adr ta D A H0 ri0 nL kc ks) bp (pc + len) RQ C o) : dh_OK p l e R s m args below meth c Q adr ta D A H0 ri0 nL kc ks pc ls st h := by
  simp only [dh_tr, dh_ri] at ht
  split at ht
  · rename_i hlen
    cases ht
    subst hlen
    simp only [dh_do] at ho
    split at ho
    · simp only [dh_lop] at ho
      cases ho
      exact dh_s_land F hd hk
    · cases ho
  · cases ht
theorem dh_step_lor (F : dh_Fx p s m args c cc nL own D ta A adr H0 ri0 sh) {d : Nat} (hA : ∀ q, H0.size ≤ q → A q) (hRm : d + 1 ≤ R.frames ∧ 60 * d + 60 ≤ R.locals) (hkc : kc ≤ R.cells ∧ ks ≤ R.slots) {C : dh_C} (hC : ∀ mn as h Qv, C mn as h Qv → dh_Mt l d mn as h Qv) {bp : List Nat} {rtc : Nat} {RQ : Option dh_V → dh_AH → Prop} (hRt : dh_Rt p l e R s m args below meth c Q adr ta D A H0 ri0 kc ks cc rtc RQ) {pc len : Nat} {r : dh_RI}  {ls : dh_LS} {st : List dh_V} {h : dh_AH} {o : dh_O} (hd : decode cc pc = .ok (.lor, len)) (ht : dh_tr nL rtc own bp pc (.lor) len = some r) (ho : dh_do sh r ls st h = some o) (hk : dh_ct (dh_OK p l e R s m args below meth c Q adr ta D A H0 ri0 nL kc ks) bp (pc + len) RQ C o) : dh_OK p l e R s m args below meth c Q adr ta D A H0 ri0 nL kc ks pc ls st h := by
  simp only [dh_tr, dh_ri] at ht
  split at ht
  · rename_i hlen
    cases ht
    subst hlen
    simp only [dh_do] at ho
    split at ho
    · simp only [dh_lop] at ho
      cases ho
      exact dh_s_lor F hd hk
    · cases ho
  · cases ht
theorem dh_step_lshl (F : dh_Fx p s m args c cc nL own D ta A adr H0 ri0 sh) {d : Nat} (hA : ∀ q, H0.size ≤ q → A q) (hRm : d + 1 ≤ R.frames ∧ 60 * d + 60 ≤ R.locals) (hkc : kc ≤ R.cells ∧ ks ≤ R.slots) {C : dh_C} (hC : ∀ mn as h Qv, C mn as h Qv → dh_Mt l d mn as h Qv) {bp : List Nat} {rtc : Nat} {RQ : Option dh_V → dh_AH → Prop} (hRt : dh_Rt p l e R s m args below meth c Q adr ta D A H0 ri0 kc ks cc rtc RQ) {pc len : Nat} {r : dh_RI}  {ls : dh_LS} {st : List dh_V} {h : dh_AH} {o : dh_O} (hd : decode cc pc = .ok (.lshl, len)) (ht : dh_tr nL rtc own bp pc (.lshl) len = some r) (ho : dh_do sh r ls st h = some o) (hk : dh_ct (dh_OK p l e R s m args below meth c Q adr ta D A H0 ri0 nL kc ks) bp (pc + len) RQ C o) : dh_OK p l e R s m args below meth c Q adr ta D A H0 ri0 nL kc ks pc ls st h := by
  simp only [dh_tr, dh_ri] at ht
  split at ht
  · rename_i hlen
    cases ht
    subst hlen
    simp only [dh_do] at ho
    split at ho
    · simp only [dh_lsh] at ho
      cases ho
      exact dh_s_lshl F hd hk
    · cases ho
  · cases ht
theorem dh_step_lshr (F : dh_Fx p s m args c cc nL own D ta A adr H0 ri0 sh) {d : Nat} (hA : ∀ q, H0.size ≤ q → A q) (hRm : d + 1 ≤ R.frames ∧ 60 * d + 60 ≤ R.locals) (hkc : kc ≤ R.cells ∧ ks ≤ R.slots) {C : dh_C} (hC : ∀ mn as h Qv, C mn as h Qv → dh_Mt l d mn as h Qv) {bp : List Nat} {rtc : Nat} {RQ : Option dh_V → dh_AH → Prop} (hRt : dh_Rt p l e R s m args below meth c Q adr ta D A H0 ri0 kc ks cc rtc RQ) {pc len : Nat} {r : dh_RI}  {ls : dh_LS} {st : List dh_V} {h : dh_AH} {o : dh_O} (hd : decode cc pc = .ok (.lshr, len)) (ht : dh_tr nL rtc own bp pc (.lshr) len = some r) (ho : dh_do sh r ls st h = some o) (hk : dh_ct (dh_OK p l e R s m args below meth c Q adr ta D A H0 ri0 nL kc ks) bp (pc + len) RQ C o) : dh_OK p l e R s m args below meth c Q adr ta D A H0 ri0 nL kc ks pc ls st h := by
  simp only [dh_tr, dh_ri] at ht
  split at ht
  · rename_i hlen
    cases ht
    subst hlen
    simp only [dh_do] at ho
    split at ho
    · simp only [dh_lsh] at ho
      cases ho
      exact dh_s_lshr F hd hk
    · cases ho
  · cases ht
theorem dh_step_lushr (F : dh_Fx p s m args c cc nL own D ta A adr H0 ri0 sh) {d : Nat} (hA : ∀ q, H0.size ≤ q → A q) (hRm : d + 1 ≤ R.frames ∧ 60 * d + 60 ≤ R.locals) (hkc : kc ≤ R.cells ∧ ks ≤ R.slots) {C : dh_C} (hC : ∀ mn as h Qv, C mn as h Qv → dh_Mt l d mn as h Qv) {bp : List Nat} {rtc : Nat} {RQ : Option dh_V → dh_AH → Prop} (hRt : dh_Rt p l e R s m args below meth c Q adr ta D A H0 ri0 kc ks cc rtc RQ) {pc len : Nat} {r : dh_RI}  {ls : dh_LS} {st : List dh_V} {h : dh_AH} {o : dh_O} (hd : decode cc pc = .ok (.lushr, len)) (ht : dh_tr nL rtc own bp pc (.lushr) len = some r) (ho : dh_do sh r ls st h = some o) (hk : dh_ct (dh_OK p l e R s m args below meth c Q adr ta D A H0 ri0 nL kc ks) bp (pc + len) RQ C o) : dh_OK p l e R s m args below meth c Q adr ta D A H0 ri0 nL kc ks pc ls st h := by
  simp only [dh_tr, dh_ri] at ht
  split at ht
  · rename_i hlen
    cases ht
    subst hlen
    simp only [dh_do] at ho
    split at ho
    · simp only [dh_lsh] at ho
      cases ho
      exact dh_s_lushr F hd hk
    · cases ho
  · cases ht
theorem dh_step_idiv (F : dh_Fx p s m args c cc nL own D ta A adr H0 ri0 sh) {d : Nat} (hA : ∀ q, H0.size ≤ q → A q) (hRm : d + 1 ≤ R.frames ∧ 60 * d + 60 ≤ R.locals) (hkc : kc ≤ R.cells ∧ ks ≤ R.slots) {C : dh_C} (hC : ∀ mn as h Qv, C mn as h Qv → dh_Mt l d mn as h Qv) {bp : List Nat} {rtc : Nat} {RQ : Option dh_V → dh_AH → Prop} (hRt : dh_Rt p l e R s m args below meth c Q adr ta D A H0 ri0 kc ks cc rtc RQ) {pc len : Nat} {r : dh_RI}  {ls : dh_LS} {st : List dh_V} {h : dh_AH} {o : dh_O} (hd : decode cc pc = .ok (.idiv, len)) (ht : dh_tr nL rtc own bp pc (.idiv) len = some r) (ho : dh_do sh r ls st h = some o) (hk : dh_ct (dh_OK p l e R s m args below meth c Q adr ta D A H0 ri0 nL kc ks) bp (pc + len) RQ C o) : dh_OK p l e R s m args below meth c Q adr ta D A H0 ri0 nL kc ks pc ls st h := by
  simp only [dh_tr, dh_ri] at ht
  split at ht
  · rename_i hlen
    cases ht
    subst hlen
    simp only [dh_do] at ho
    split at ho
    · rename_i x y tl
      by_cases hz : x = 0
      · simp [dh_iop, hz] at ho
      · simp only [dh_iop, if_neg hz] at ho
        cases ho
        exact dh_s_idiv F hz hd hk
    · cases ho
  · cases ht
theorem dh_step_irem (F : dh_Fx p s m args c cc nL own D ta A adr H0 ri0 sh) {d : Nat} (hA : ∀ q, H0.size ≤ q → A q) (hRm : d + 1 ≤ R.frames ∧ 60 * d + 60 ≤ R.locals) (hkc : kc ≤ R.cells ∧ ks ≤ R.slots) {C : dh_C} (hC : ∀ mn as h Qv, C mn as h Qv → dh_Mt l d mn as h Qv) {bp : List Nat} {rtc : Nat} {RQ : Option dh_V → dh_AH → Prop} (hRt : dh_Rt p l e R s m args below meth c Q adr ta D A H0 ri0 kc ks cc rtc RQ) {pc len : Nat} {r : dh_RI}  {ls : dh_LS} {st : List dh_V} {h : dh_AH} {o : dh_O} (hd : decode cc pc = .ok (.irem, len)) (ht : dh_tr nL rtc own bp pc (.irem) len = some r) (ho : dh_do sh r ls st h = some o) (hk : dh_ct (dh_OK p l e R s m args below meth c Q adr ta D A H0 ri0 nL kc ks) bp (pc + len) RQ C o) : dh_OK p l e R s m args below meth c Q adr ta D A H0 ri0 nL kc ks pc ls st h := by
  simp only [dh_tr, dh_ri] at ht
  split at ht
  · rename_i hlen
    cases ht
    subst hlen
    simp only [dh_do] at ho
    split at ho
    · rename_i x y tl
      by_cases hz : x = 0
      · simp [dh_iop, hz] at ho
      · simp only [dh_iop, if_neg hz] at ho
        cases ho
        exact dh_s_irem F hz hd hk
    · cases ho
  · cases ht
theorem dh_step_ldiv (F : dh_Fx p s m args c cc nL own D ta A adr H0 ri0 sh) {d : Nat} (hA : ∀ q, H0.size ≤ q → A q) (hRm : d + 1 ≤ R.frames ∧ 60 * d + 60 ≤ R.locals) (hkc : kc ≤ R.cells ∧ ks ≤ R.slots) {C : dh_C} (hC : ∀ mn as h Qv, C mn as h Qv → dh_Mt l d mn as h Qv) {bp : List Nat} {rtc : Nat} {RQ : Option dh_V → dh_AH → Prop} (hRt : dh_Rt p l e R s m args below meth c Q adr ta D A H0 ri0 kc ks cc rtc RQ) {pc len : Nat} {r : dh_RI}  {ls : dh_LS} {st : List dh_V} {h : dh_AH} {o : dh_O} (hd : decode cc pc = .ok (.ldiv, len)) (ht : dh_tr nL rtc own bp pc (.ldiv) len = some r) (ho : dh_do sh r ls st h = some o) (hk : dh_ct (dh_OK p l e R s m args below meth c Q adr ta D A H0 ri0 nL kc ks) bp (pc + len) RQ C o) : dh_OK p l e R s m args below meth c Q adr ta D A H0 ri0 nL kc ks pc ls st h := by
  simp only [dh_tr, dh_ri] at ht
  split at ht
  · rename_i hlen
    cases ht
    subst hlen
    simp only [dh_do] at ho
    split at ho
    · rename_i x y tl
      by_cases hz : x = 0
      · simp [dh_lop, hz] at ho
      · simp only [dh_lop, if_neg hz] at ho
        cases ho
        exact dh_s_ldiv F hz hd hk
    · cases ho
  · cases ht
theorem dh_step_lrem (F : dh_Fx p s m args c cc nL own D ta A adr H0 ri0 sh) {d : Nat} (hA : ∀ q, H0.size ≤ q → A q) (hRm : d + 1 ≤ R.frames ∧ 60 * d + 60 ≤ R.locals) (hkc : kc ≤ R.cells ∧ ks ≤ R.slots) {C : dh_C} (hC : ∀ mn as h Qv, C mn as h Qv → dh_Mt l d mn as h Qv) {bp : List Nat} {rtc : Nat} {RQ : Option dh_V → dh_AH → Prop} (hRt : dh_Rt p l e R s m args below meth c Q adr ta D A H0 ri0 kc ks cc rtc RQ) {pc len : Nat} {r : dh_RI}  {ls : dh_LS} {st : List dh_V} {h : dh_AH} {o : dh_O} (hd : decode cc pc = .ok (.lrem, len)) (ht : dh_tr nL rtc own bp pc (.lrem) len = some r) (ho : dh_do sh r ls st h = some o) (hk : dh_ct (dh_OK p l e R s m args below meth c Q adr ta D A H0 ri0 nL kc ks) bp (pc + len) RQ C o) : dh_OK p l e R s m args below meth c Q adr ta D A H0 ri0 nL kc ks pc ls st h := by
  simp only [dh_tr, dh_ri] at ht
  split at ht
  · rename_i hlen
    cases ht
    subst hlen
    simp only [dh_do] at ho
    split at ho
    · rename_i x y tl
      by_cases hz : x = 0
      · simp [dh_lop, hz] at ho
      · simp only [dh_lop, if_neg hz] at ho
        cases ho
        exact dh_s_lrem F hz hd hk
    · cases ho
  · cases ht
theorem dh_step_i2l (F : dh_Fx p s m args c cc nL own D ta A adr H0 ri0 sh) {d : Nat} (hA : ∀ q, H0.size ≤ q → A q) (hRm : d + 1 ≤ R.frames ∧ 60 * d + 60 ≤ R.locals) (hkc : kc ≤ R.cells ∧ ks ≤ R.slots) {C : dh_C} (hC : ∀ mn as h Qv, C mn as h Qv → dh_Mt l d mn as h Qv) {bp : List Nat} {rtc : Nat} {RQ : Option dh_V → dh_AH → Prop} (hRt : dh_Rt p l e R s m args below meth c Q adr ta D A H0 ri0 kc ks cc rtc RQ) {pc len : Nat} {r : dh_RI}  {ls : dh_LS} {st : List dh_V} {h : dh_AH} {o : dh_O} (hd : decode cc pc = .ok (.i2l, len)) (ht : dh_tr nL rtc own bp pc (.i2l) len = some r) (ho : dh_do sh r ls st h = some o) (hk : dh_ct (dh_OK p l e R s m args below meth c Q adr ta D A H0 ri0 nL kc ks) bp (pc + len) RQ C o) : dh_OK p l e R s m args below meth c Q adr ta D A H0 ri0 nL kc ks pc ls st h := by
  simp only [dh_tr, dh_ri] at ht
  split at ht
  · rename_i hlen
    cases ht
    subst hlen
    simp only [dh_do] at ho
    split at ho
    · cases ho
      exact dh_s_i2l F hd hk
    · cases ho
  · cases ht
theorem dh_step_l2i (F : dh_Fx p s m args c cc nL own D ta A adr H0 ri0 sh) {d : Nat} (hA : ∀ q, H0.size ≤ q → A q) (hRm : d + 1 ≤ R.frames ∧ 60 * d + 60 ≤ R.locals) (hkc : kc ≤ R.cells ∧ ks ≤ R.slots) {C : dh_C} (hC : ∀ mn as h Qv, C mn as h Qv → dh_Mt l d mn as h Qv) {bp : List Nat} {rtc : Nat} {RQ : Option dh_V → dh_AH → Prop} (hRt : dh_Rt p l e R s m args below meth c Q adr ta D A H0 ri0 kc ks cc rtc RQ) {pc len : Nat} {r : dh_RI}  {ls : dh_LS} {st : List dh_V} {h : dh_AH} {o : dh_O} (hd : decode cc pc = .ok (.l2i, len)) (ht : dh_tr nL rtc own bp pc (.l2i) len = some r) (ho : dh_do sh r ls st h = some o) (hk : dh_ct (dh_OK p l e R s m args below meth c Q adr ta D A H0 ri0 nL kc ks) bp (pc + len) RQ C o) : dh_OK p l e R s m args below meth c Q adr ta D A H0 ri0 nL kc ks pc ls st h := by
  simp only [dh_tr, dh_ri] at ht
  split at ht
  · rename_i hlen
    cases ht
    subst hlen
    simp only [dh_do] at ho
    split at ho
    · cases ho
      exact dh_s_l2i F hd hk
    · cases ho
  · cases ht
theorem dh_step_i2b (F : dh_Fx p s m args c cc nL own D ta A adr H0 ri0 sh) {d : Nat} (hA : ∀ q, H0.size ≤ q → A q) (hRm : d + 1 ≤ R.frames ∧ 60 * d + 60 ≤ R.locals) (hkc : kc ≤ R.cells ∧ ks ≤ R.slots) {C : dh_C} (hC : ∀ mn as h Qv, C mn as h Qv → dh_Mt l d mn as h Qv) {bp : List Nat} {rtc : Nat} {RQ : Option dh_V → dh_AH → Prop} (hRt : dh_Rt p l e R s m args below meth c Q adr ta D A H0 ri0 kc ks cc rtc RQ) {pc len : Nat} {r : dh_RI}  {ls : dh_LS} {st : List dh_V} {h : dh_AH} {o : dh_O} (hd : decode cc pc = .ok (.i2b, len)) (ht : dh_tr nL rtc own bp pc (.i2b) len = some r) (ho : dh_do sh r ls st h = some o) (hk : dh_ct (dh_OK p l e R s m args below meth c Q adr ta D A H0 ri0 nL kc ks) bp (pc + len) RQ C o) : dh_OK p l e R s m args below meth c Q adr ta D A H0 ri0 nL kc ks pc ls st h := by
  simp only [dh_tr, dh_ri] at ht
  split at ht
  · rename_i hlen
    cases ht
    subst hlen
    simp only [dh_do] at ho
    split at ho
    · cases ho
      exact dh_s_i2b F hd hk
    · cases ho
  · cases ht
theorem dh_step_lcmp (F : dh_Fx p s m args c cc nL own D ta A adr H0 ri0 sh) {d : Nat} (hA : ∀ q, H0.size ≤ q → A q) (hRm : d + 1 ≤ R.frames ∧ 60 * d + 60 ≤ R.locals) (hkc : kc ≤ R.cells ∧ ks ≤ R.slots) {C : dh_C} (hC : ∀ mn as h Qv, C mn as h Qv → dh_Mt l d mn as h Qv) {bp : List Nat} {rtc : Nat} {RQ : Option dh_V → dh_AH → Prop} (hRt : dh_Rt p l e R s m args below meth c Q adr ta D A H0 ri0 kc ks cc rtc RQ) {pc len : Nat} {r : dh_RI}  {ls : dh_LS} {st : List dh_V} {h : dh_AH} {o : dh_O} (hd : decode cc pc = .ok (.lcmp, len)) (ht : dh_tr nL rtc own bp pc (.lcmp) len = some r) (ho : dh_do sh r ls st h = some o) (hk : dh_ct (dh_OK p l e R s m args below meth c Q adr ta D A H0 ri0 nL kc ks) bp (pc + len) RQ C o) : dh_OK p l e R s m args below meth c Q adr ta D A H0 ri0 nL kc ks pc ls st h := by
  simp only [dh_tr, dh_ri] at ht
  split at ht
  · rename_i hlen
    cases ht
    subst hlen
    simp only [dh_do] at ho
    split at ho
    · cases ho
      exact dh_s_lcmp F hd hk
    · cases ho
  · cases ht
theorem dh_step_dup (F : dh_Fx p s m args c cc nL own D ta A adr H0 ri0 sh) {d : Nat} (hA : ∀ q, H0.size ≤ q → A q) (hRm : d + 1 ≤ R.frames ∧ 60 * d + 60 ≤ R.locals) (hkc : kc ≤ R.cells ∧ ks ≤ R.slots) {C : dh_C} (hC : ∀ mn as h Qv, C mn as h Qv → dh_Mt l d mn as h Qv) {bp : List Nat} {rtc : Nat} {RQ : Option dh_V → dh_AH → Prop} (hRt : dh_Rt p l e R s m args below meth c Q adr ta D A H0 ri0 kc ks cc rtc RQ) {pc len : Nat} {r : dh_RI}  {ls : dh_LS} {st : List dh_V} {h : dh_AH} {o : dh_O} (hd : decode cc pc = .ok (.dup, len)) (ht : dh_tr nL rtc own bp pc (.dup) len = some r) (ho : dh_do sh r ls st h = some o) (hk : dh_ct (dh_OK p l e R s m args below meth c Q adr ta D A H0 ri0 nL kc ks) bp (pc + len) RQ C o) : dh_OK p l e R s m args below meth c Q adr ta D A H0 ri0 nL kc ks pc ls st h := by
  simp only [dh_tr, dh_ri] at ht
  split at ht
  · rename_i hlen
    cases ht
    subst hlen
    simp only [dh_do] at ho
    split at ho
    · cases ho
      exact dh_s_dup F rfl hd hk
    · cases ho
      exact dh_s_dup F rfl hd hk
    · cases ho
  · cases ht
theorem dh_step_pop (F : dh_Fx p s m args c cc nL own D ta A adr H0 ri0 sh) {d : Nat} (hA : ∀ q, H0.size ≤ q → A q) (hRm : d + 1 ≤ R.frames ∧ 60 * d + 60 ≤ R.locals) (hkc : kc ≤ R.cells ∧ ks ≤ R.slots) {C : dh_C} (hC : ∀ mn as h Qv, C mn as h Qv → dh_Mt l d mn as h Qv) {bp : List Nat} {rtc : Nat} {RQ : Option dh_V → dh_AH → Prop} (hRt : dh_Rt p l e R s m args below meth c Q adr ta D A H0 ri0 kc ks cc rtc RQ) {pc len : Nat} {r : dh_RI}  {ls : dh_LS} {st : List dh_V} {h : dh_AH} {o : dh_O} (hd : decode cc pc = .ok (.pop, len)) (ht : dh_tr nL rtc own bp pc (.pop) len = some r) (ho : dh_do sh r ls st h = some o) (hk : dh_ct (dh_OK p l e R s m args below meth c Q adr ta D A H0 ri0 nL kc ks) bp (pc + len) RQ C o) : dh_OK p l e R s m args below meth c Q adr ta D A H0 ri0 nL kc ks pc ls st h := by
  simp only [dh_tr, dh_ri] at ht
  split at ht
  · rename_i hlen
    cases ht
    subst hlen
    simp only [dh_do] at ho
    split at ho
    · cases ho
      exact dh_s_pop F rfl hd hk
    · cases ho
      exact dh_s_pop F rfl hd hk
    · cases ho
  · cases ht
theorem dh_step_iinc (F : dh_Fx p s m args c cc nL own D ta A adr H0 ri0 sh) {d : Nat} (hA : ∀ q, H0.size ≤ q → A q) (hRm : d + 1 ≤ R.frames ∧ 60 * d + 60 ≤ R.locals) (hkc : kc ≤ R.cells ∧ ks ≤ R.slots) {C : dh_C} (hC : ∀ mn as h Qv, C mn as h Qv → dh_Mt l d mn as h Qv) {bp : List Nat} {rtc : Nat} {RQ : Option dh_V → dh_AH → Prop} (hRt : dh_Rt p l e R s m args below meth c Q adr ta D A H0 ri0 kc ks cc rtc RQ) {pc len : Nat} {r : dh_RI} {k : Nat} {n : Int} {ls : dh_LS} {st : List dh_V} {h : dh_AH} {o : dh_O} (hd : decode cc pc = .ok (.iinc k n, len)) (ht : dh_tr nL rtc own bp pc (.iinc k n) len = some r) (ho : dh_do sh r ls st h = some o) (hk : dh_ct (dh_OK p l e R s m args below meth c Q adr ta D A H0 ri0 nL kc ks) bp (pc + len) RQ C o) : dh_OK p l e R s m args below meth c Q adr ta D A H0 ri0 nL kc ks pc ls st h := by
  simp only [dh_tr, dh_ri] at ht
  split at ht
  · rename_i hcnd
    split at ht
    · rename_i hlen
      cases ht
      subst hlen
      simp only [dh_do] at ho
      split at ho
      · cases ho
        exact dh_s_iinc F (by assumption) hcnd.1 hcnd.2 hd hk
      · cases ho
    · cases ht
  · cases ht
theorem dh_step_ifCond (F : dh_Fx p s m args c cc nL own D ta A adr H0 ri0 sh) {d : Nat} (hA : ∀ q, H0.size ≤ q → A q) (hRm : d + 1 ≤ R.frames ∧ 60 * d + 60 ≤ R.locals) (hkc : kc ≤ R.cells ∧ ks ≤ R.slots) {C : dh_C} (hC : ∀ mn as h Qv, C mn as h Qv → dh_Mt l d mn as h Qv) {bp : List Nat} {rtc : Nat} {RQ : Option dh_V → dh_AH → Prop} (hRt : dh_Rt p l e R s m args below meth c Q adr ta D A H0 ri0 kc ks cc rtc RQ) {pc len : Nat} {r : dh_RI} {k : ClassFile.Cond} {off : Int} {ls : dh_LS} {st : List dh_V} {h : dh_AH} {o : dh_O} (hd : decode cc pc = .ok (.ifCond k off, len)) (ht : dh_tr nL rtc own bp pc (.ifCond k off) len = some r) (ho : dh_do sh r ls st h = some o) (hk : dh_ct (dh_OK p l e R s m args below meth c Q adr ta D A H0 ri0 nL kc ks) bp (pc + len) RQ C o) : dh_OK p l e R s m args below meth c Q adr ta D A H0 ri0 nL kc ks pc ls st h := by
  simp only [dh_tr] at ht
  cases hf : dh_tgt bp pc off with
  | none => rw [hf] at ht; cases ht
  | some b =>
    rw [hf] at ht
    simp only [dh_ri] at ht
    split at ht
    · rename_i hlen
      cases ht
      subst hlen
      obtain ⟨t, hb, htt⟩ := dh_tgt_at hf
      simp only [dh_do] at ho
      split at ho
      · split at ho
        · rename_i hcnd
          cases ho
          exact dh_s_ifc F hd htt (fun _ => hk t hb) (fun q => absurd (hcnd.symm.trans q) (by decide))
        · rename_i hcnd
          cases ho
          exact dh_s_ifc F hd htt (fun q => absurd q hcnd) (fun _ => hk)
      · cases ho
    · cases ht
theorem dh_step_if_icmp (F : dh_Fx p s m args c cc nL own D ta A adr H0 ri0 sh) {d : Nat} (hA : ∀ q, H0.size ≤ q → A q) (hRm : d + 1 ≤ R.frames ∧ 60 * d + 60 ≤ R.locals) (hkc : kc ≤ R.cells ∧ ks ≤ R.slots) {C : dh_C} (hC : ∀ mn as h Qv, C mn as h Qv → dh_Mt l d mn as h Qv) {bp : List Nat} {rtc : Nat} {RQ : Option dh_V → dh_AH → Prop} (hRt : dh_Rt p l e R s m args below meth c Q adr ta D A H0 ri0 kc ks cc rtc RQ) {pc len : Nat} {r : dh_RI} {k : ClassFile.Cond} {off : Int} {ls : dh_LS} {st : List dh_V} {h : dh_AH} {o : dh_O} (hd : decode cc pc = .ok (.if_icmp k off, len)) (ht : dh_tr nL rtc own bp pc (.if_icmp k off) len = some r) (ho : dh_do sh r ls st h = some o) (hk : dh_ct (dh_OK p l e R s m args below meth c Q adr ta D A H0 ri0 nL kc ks) bp (pc + len) RQ C o) : dh_OK p l e R s m args below meth c Q adr ta D A H0 ri0 nL kc ks pc ls st h := by
  simp only [dh_tr] at ht
  cases hf : dh_tgt bp pc off with
  | none => rw [hf] at ht; cases ht
  | some b =>
    rw [hf] at ht
    simp only [dh_ri] at ht
    split at ht
    · rename_i hlen
      cases ht
      subst hlen
      obtain ⟨t, hb, htt⟩ := dh_tgt_at hf
      simp only [dh_do] at ho
      split at ho
      · split at ho
        · rename_i hcnd
          cases ho
          exact dh_s_icmp F hd htt (fun _ => hk t hb) (fun q => absurd (hcnd.symm.trans q) (by decide))
        · rename_i hcnd
          cases ho
          exact dh_s_icmp F hd htt (fun q => absurd q hcnd) (fun _ => hk)
      · cases ho
    · cases ht
theorem dh_step_ifnull (F : dh_Fx p s m args c cc nL own D ta A adr H0 ri0 sh) {d : Nat} (hA : ∀ q, H0.size ≤ q → A q) (hRm : d + 1 ≤ R.frames ∧ 60 * d + 60 ≤ R.locals) (hkc : kc ≤ R.cells ∧ ks ≤ R.slots) {C : dh_C} (hC : ∀ mn as h Qv, C mn as h Qv → dh_Mt l d mn as h Qv) {bp : List Nat} {rtc : Nat} {RQ : Option dh_V → dh_AH → Prop} (hRt : dh_Rt p l e R s m args below meth c Q adr ta D A H0 ri0 kc ks cc rtc RQ) {pc len : Nat} {r : dh_RI} {off : Int} {ls : dh_LS} {st : List dh_V} {h : dh_AH} {o : dh_O} (hd : decode cc pc = .ok (.ifnull off, len)) (ht : dh_tr nL rtc own bp pc (.ifnull off) len = some r) (ho : dh_do sh r ls st h = some o) (hk : dh_ct (dh_OK p l e R s m args below meth c Q adr ta D A H0 ri0 nL kc ks) bp (pc + len) RQ C o) : dh_OK p l e R s m args below meth c Q adr ta D A H0 ri0 nL kc ks pc ls st h := by
  simp only [dh_tr] at ht
  cases hf : dh_tgt bp pc off with
  | none => rw [hf] at ht; cases ht
  | some b =>
    rw [hf] at ht
    simp only [dh_ri] at ht
    split at ht
    · rename_i hlen
      cases ht
      subst hlen
      obtain ⟨t, hb, htt⟩ := dh_tgt_at hf
      simp only [dh_do] at ho
      split at ho
      · cases ho
        exact dh_s_ifnull F hd htt (hk t hb)
      · cases ho
        exact dh_s_ifnullR F hd hk
      · cases ho
    · cases ht
theorem dh_step_ifnonnull (F : dh_Fx p s m args c cc nL own D ta A adr H0 ri0 sh) {d : Nat} (hA : ∀ q, H0.size ≤ q → A q) (hRm : d + 1 ≤ R.frames ∧ 60 * d + 60 ≤ R.locals) (hkc : kc ≤ R.cells ∧ ks ≤ R.slots) {C : dh_C} (hC : ∀ mn as h Qv, C mn as h Qv → dh_Mt l d mn as h Qv) {bp : List Nat} {rtc : Nat} {RQ : Option dh_V → dh_AH → Prop} (hRt : dh_Rt p l e R s m args below meth c Q adr ta D A H0 ri0 kc ks cc rtc RQ) {pc len : Nat} {r : dh_RI} {off : Int} {ls : dh_LS} {st : List dh_V} {h : dh_AH} {o : dh_O} (hd : decode cc pc = .ok (.ifnonnull off, len)) (ht : dh_tr nL rtc own bp pc (.ifnonnull off) len = some r) (ho : dh_do sh r ls st h = some o) (hk : dh_ct (dh_OK p l e R s m args below meth c Q adr ta D A H0 ri0 nL kc ks) bp (pc + len) RQ C o) : dh_OK p l e R s m args below meth c Q adr ta D A H0 ri0 nL kc ks pc ls st h := by
  simp only [dh_tr] at ht
  cases hf : dh_tgt bp pc off with
  | none => rw [hf] at ht; cases ht
  | some b =>
    rw [hf] at ht
    simp only [dh_ri] at ht
    split at ht
    · rename_i hlen
      cases ht
      subst hlen
      obtain ⟨t, hb, htt⟩ := dh_tgt_at hf
      simp only [dh_do] at ho
      split at ho
      · cases ho
        exact dh_s_ifnonnullN F hd hk
      · cases ho
        exact dh_s_ifnonnull F hd htt (hk t hb)
      · cases ho
    · cases ht
theorem dh_step_goto (F : dh_Fx p s m args c cc nL own D ta A adr H0 ri0 sh) {d : Nat} (hA : ∀ q, H0.size ≤ q → A q) (hRm : d + 1 ≤ R.frames ∧ 60 * d + 60 ≤ R.locals) (hkc : kc ≤ R.cells ∧ ks ≤ R.slots) {C : dh_C} (hC : ∀ mn as h Qv, C mn as h Qv → dh_Mt l d mn as h Qv) {bp : List Nat} {rtc : Nat} {RQ : Option dh_V → dh_AH → Prop} (hRt : dh_Rt p l e R s m args below meth c Q adr ta D A H0 ri0 kc ks cc rtc RQ) {pc len : Nat} {r : dh_RI} {off : Int} {ls : dh_LS} {st : List dh_V} {h : dh_AH} {o : dh_O} (hd : decode cc pc = .ok (.goto off, len)) (ht : dh_tr nL rtc own bp pc (.goto off) len = some r) (ho : dh_do sh r ls st h = some o) (hk : dh_ct (dh_OK p l e R s m args below meth c Q adr ta D A H0 ri0 nL kc ks) bp (pc + len) RQ C o) : dh_OK p l e R s m args below meth c Q adr ta D A H0 ri0 nL kc ks pc ls st h := by
  simp only [dh_tr] at ht
  cases hf : dh_tgt bp pc off with
  | none => rw [hf] at ht; cases ht
  | some b =>
    rw [hf] at ht
    simp only [dh_ri] at ht
    split at ht
    · rename_i hlen
      cases ht
      subst hlen
      obtain ⟨t, hb, htt⟩ := dh_tgt_at hf
      simp only [dh_do] at ho
      cases ho
      exact dh_s_goto F hd htt (hk t hb)
    · cases ht
theorem dh_step_ireturn (F : dh_Fx p s m args c cc nL own D ta A adr H0 ri0 sh) {d : Nat} (hA : ∀ q, H0.size ≤ q → A q) (hRm : d + 1 ≤ R.frames ∧ 60 * d + 60 ≤ R.locals) (hkc : kc ≤ R.cells ∧ ks ≤ R.slots) {C : dh_C} (hC : ∀ mn as h Qv, C mn as h Qv → dh_Mt l d mn as h Qv) {bp : List Nat} {rtc : Nat} {RQ : Option dh_V → dh_AH → Prop} (hRt : dh_Rt p l e R s m args below meth c Q adr ta D A H0 ri0 kc ks cc rtc RQ) {pc len : Nat} {r : dh_RI}  {ls : dh_LS} {st : List dh_V} {h : dh_AH} {o : dh_O} (hd : decode cc pc = .ok (.ireturn, len)) (ht : dh_tr nL rtc own bp pc (.ireturn) len = some r) (ho : dh_do sh r ls st h = some o) (hk : dh_ct (dh_OK p l e R s m args below meth c Q adr ta D A H0 ri0 nL kc ks) bp (pc + len) RQ C o) : dh_OK p l e R s m args below meth c Q adr ta D A H0 ri0 nL kc ks pc ls st h := by
  simp only [dh_tr, dh_ri] at ht
  split at ht
  · rename_i hcnd
    split at ht
    · rename_i hlen
      cases ht
      subst hlen
      rcases hcnd with rfl | rfl
      · simp only [dh_do] at ho
        split at ho
        · cases ho
          intro rls rst H locs hl hs hR
          obtain ⟨n, xs, rfl, e1, hs_2⟩ := dh_rs_i hs
          clear hs
          have hs := hs_2
          clear hs_2
          cases dh_rs_nil hs
          subst e1
          exact (hRt pc rls H locs h hR).1 n (Or.inl rfl) hd hk
        · cases ho
      · simp only [dh_do] at ho
        split at ho
        · split at ho
          · rename_i hx
            cases ho
            intro rls rst H locs hl hs hR
            obtain ⟨n, xs, rfl, e1, hs_3⟩ := dh_rs_i hs
            clear hs
            have hs := hs_3
            clear hs_3
            cases dh_rs_nil hs
            subst e1
            exact (hRt pc rls H locs h hR).1 n (Or.inr ⟨rfl, hx.imp dh_n_0.mp dh_n_1.mp⟩) hd hk
          · cases ho
        · cases ho
    · cases ht
  · cases ht
theorem dh_step_lreturn (F : dh_Fx p s m args c cc nL own D ta A adr H0 ri0 sh) {d : Nat} (hA : ∀ q, H0.size ≤ q → A q) (hRm : d + 1 ≤ R.frames ∧ 60 * d + 60 ≤ R.locals) (hkc : kc ≤ R.cells ∧ ks ≤ R.slots) {C : dh_C} (hC : ∀ mn as h Qv, C mn as h Qv → dh_Mt l d mn as h Qv) {bp : List Nat} {rtc : Nat} {RQ : Option dh_V → dh_AH → Prop} (hRt : dh_Rt p l e R s m args below meth c Q adr ta D A H0 ri0 kc ks cc rtc RQ) {pc len : Nat} {r : dh_RI}  {ls : dh_LS} {st : List dh_V} {h : dh_AH} {o : dh_O} (hd : decode cc pc = .ok (.lreturn, len)) (ht : dh_tr nL rtc own bp pc (.lreturn) len = some r) (ho : dh_do sh r ls st h = some o) (hk : dh_ct (dh_OK p l e R s m args below meth c Q adr ta D A H0 ri0 nL kc ks) bp (pc + len) RQ C o) : dh_OK p l e R s m args below meth c Q adr ta D A H0 ri0 nL kc ks pc ls st h := by
  simp only [dh_tr, dh_ri] at ht
  split at ht
  · rename_i hcnd
    subst hcnd
    split at ht
    · rename_i hlen
      cases ht
      subst hlen
      simp only [dh_do] at ho
      split at ho
      · cases ho
        intro rls rst H locs hl hs hR
        obtain ⟨n, xs, rfl, e1, hs_4⟩ := dh_rs_l hs
        clear hs
        have hs := hs_4
        clear hs_4
        cases dh_rs_nil hs
        subst e1
        exact (hRt pc rls H locs h hR).2.1 n rfl hd hk
      · cases ho
    · cases ht
  · cases ht
theorem dh_step_areturn (F : dh_Fx p s m args c cc nL own D ta A adr H0 ri0 sh) {d : Nat} (hA : ∀ q, H0.size ≤ q → A q) (hRm : d + 1 ≤ R.frames ∧ 60 * d + 60 ≤ R.locals) (hkc : kc ≤ R.cells ∧ ks ≤ R.slots) {C : dh_C} (hC : ∀ mn as h Qv, C mn as h Qv → dh_Mt l d mn as h Qv) {bp : List Nat} {rtc : Nat} {RQ : Option dh_V → dh_AH → Prop} (hRt : dh_Rt p l e R s m args below meth c Q adr ta D A H0 ri0 kc ks cc rtc RQ) {pc len : Nat} {r : dh_RI}  {ls : dh_LS} {st : List dh_V} {h : dh_AH} {o : dh_O} (hd : decode cc pc = .ok (.areturn, len)) (ht : dh_tr nL rtc own bp pc (.areturn) len = some r) (ho : dh_do sh r ls st h = some o) (hk : dh_ct (dh_OK p l e R s m args below meth c Q adr ta D A H0 ri0 nL kc ks) bp (pc + len) RQ C o) : dh_OK p l e R s m args below meth c Q adr ta D A H0 ri0 nL kc ks pc ls st h := by
  simp only [dh_tr, dh_ri] at ht
  split at ht
  · rename_i hcnd
    subst hcnd
    split at ht
    · rename_i hlen
      cases ht
      subst hlen
      simp only [dh_do] at ho
      split at ho
      · cases ho
        intro rls rst H locs hl hs hR
        obtain ⟨z, xs, rfl, hz, hs_5⟩ := dh_rs_cons hs
        clear hs
        have hs := hs_5
        clear hs_5
        cases dh_rs_nil hs
        exact (hRt pc rls H locs h hR).2.2.1 z _ rfl hd hz hk
      · cases ho
    · cases ht
  · cases ht
theorem dh_step_return_ (F : dh_Fx p s m args c cc nL own D ta A adr H0 ri0 sh) {d : Nat} (hA : ∀ q, H0.size ≤ q → A q) (hRm : d + 1 ≤ R.frames ∧ 60 * d + 60 ≤ R.locals) (hkc : kc ≤ R.cells ∧ ks ≤ R.slots) {C : dh_C} (hC : ∀ mn as h Qv, C mn as h Qv → dh_Mt l d mn as h Qv) {bp : List Nat} {rtc : Nat} {RQ : Option dh_V → dh_AH → Prop} (hRt : dh_Rt p l e R s m args below meth c Q adr ta D A H0 ri0 kc ks cc rtc RQ) {pc len : Nat} {r : dh_RI}  {ls : dh_LS} {st : List dh_V} {h : dh_AH} {o : dh_O} (hd : decode cc pc = .ok (.return_, len)) (ht : dh_tr nL rtc own bp pc (.return_) len = some r) (ho : dh_do sh r ls st h = some o) (hk : dh_ct (dh_OK p l e R s m args below meth c Q adr ta D A H0 ri0 nL kc ks) bp (pc + len) RQ C o) : dh_OK p l e R s m args below meth c Q adr ta D A H0 ri0 nL kc ks pc ls st h := by
  simp only [dh_tr, dh_ri] at ht
  split at ht
  · rename_i hcnd
    subst hcnd
    split at ht
    · rename_i hlen
      cases ht
      subst hlen
      simp only [dh_do] at ho
      split at ho
      · cases ho
        intro rls rst H locs hl hs hR
        cases dh_rs_nil hs
        exact (hRt pc rls H locs h hR).2.2.2 rfl hd hk
      · cases ho
    · cases ht
  · cases ht
theorem dh_step_getfield (F : dh_Fx p s m args c cc nL own D ta A adr H0 ri0 sh) {d : Nat} (hA : ∀ q, H0.size ≤ q → A q) (hRm : d + 1 ≤ R.frames ∧ 60 * d + 60 ≤ R.locals) (hkc : kc ≤ R.cells ∧ ks ≤ R.slots) {C : dh_C} (hC : ∀ mn as h Qv, C mn as h Qv → dh_Mt l d mn as h Qv) {bp : List Nat} {rtc : Nat} {RQ : Option dh_V → dh_AH → Prop} (hRt : dh_Rt p l e R s m args below meth c Q adr ta D A H0 ri0 kc ks cc rtc RQ) {pc len : Nat} {r : dh_RI} {idx : Nat} {ls : dh_LS} {st : List dh_V} {h : dh_AH} {o : dh_O} (hd : decode cc pc = .ok (.getfield idx, len)) (ht : dh_tr nL rtc own bp pc (.getfield idx) len = some r) (ho : dh_do sh r ls st h = some o) (hk : dh_ct (dh_OK p l e R s m args below meth c Q adr ta D A H0 ri0 nL kc ks) bp (pc + len) RQ C o) : dh_OK p l e R s m args below meth c Q adr ta D A H0 ri0 nL kc ks pc ls st h := by
  simp only [dh_tr] at ht
  cases hf : dh_ff own idx with
  | none => rw [hf] at ht; cases ht
  | some q =>
    obtain ⟨q1, q2, ci, k, wi⟩ := q
    rw [hf] at ht
    simp only [] at ht
    split at ht
    · rename_i off hfk
      simp only [dh_ri] at ht
      split at ht
      · rename_i hlen
        cases ht
        subst hlen
        simp only [dh_do] at ho
        split at ho
        · split at ho
          · rename_i hsp
            cases ho
            have := dh_s_getR F hf hfk rfl hsp hd (by simpa [dh_ct] using hk)
            exact this
          · cases ho
        · cases ho
      · cases ht
    · rename_i off hfk
      simp only [dh_ri] at ht
      split at ht
      · rename_i hlen
        cases ht
        subst hlen
        simp only [dh_do] at ho
        split at ho
        · split at ho
          · rename_i hsp
            cases ho
            exact dh_s_getI F hf hfk (by first | (show (0 : Nat) ≠ 3; decide) | (show (1 : Nat) ≠ 3; decide)) hsp hd hk
          · cases ho
        · cases ho
      · cases ht
    · rename_i off hfk
      simp only [dh_ri] at ht
      split at ht
      · rename_i hlen
        cases ht
        subst hlen
        simp only [dh_do] at ho
        split at ho
        · split at ho
          · rename_i hsp
            cases ho
            exact dh_s_getI F hf hfk (by first | (show (0 : Nat) ≠ 3; decide) | (show (1 : Nat) ≠ 3; decide)) hsp hd hk
          · cases ho
        · cases ho
      · cases ht
    · cases ht
theorem dh_step_putfield (F : dh_Fx p s m args c cc nL own D ta A adr H0 ri0 sh) {d : Nat} (hA : ∀ q, H0.size ≤ q → A q) (hRm : d + 1 ≤ R.frames ∧ 60 * d + 60 ≤ R.locals) (hkc : kc ≤ R.cells ∧ ks ≤ R.slots) {C : dh_C} (hC : ∀ mn as h Qv, C mn as h Qv → dh_Mt l d mn as h Qv) {bp : List Nat} {rtc : Nat} {RQ : Option dh_V → dh_AH → Prop} (hRt : dh_Rt p l e R s m args below meth c Q adr ta D A H0 ri0 kc ks cc rtc RQ) {pc len : Nat} {r : dh_RI} {idx : Nat} {ls : dh_LS} {st : List dh_V} {h : dh_AH} {o : dh_O} (hd : decode cc pc = .ok (.putfield idx, len)) (ht : dh_tr nL rtc own bp pc (.putfield idx) len = some r) (ho : dh_do sh r ls st h = some o) (hk : dh_ct (dh_OK p l e R s m args below meth c Q adr ta D A H0 ri0 nL kc ks) bp (pc + len) RQ C o) : dh_OK p l e R s m args below meth c Q adr ta D A H0 ri0 nL kc ks pc ls st h := by
  simp only [dh_tr] at ht
  cases hf : dh_ff own idx with
  | none => rw [hf] at ht; cases ht
  | some q =>
    obtain ⟨q1, q2, ci, k, wi⟩ := q
    rw [hf] at ht
    simp only [] at ht
    split at ht
    · rename_i off hfk
      simp only [dh_ri] at ht
      split at ht
      · rename_i hlen
        cases ht
        subst hlen
        simp only [dh_do] at ho
        split at ho
        · split at ho
          · rename_i hsp
            cases ho
            exact dh_s_putI F hf hfk hsp.1 hd hk
          · cases ho
        · cases ho
      · cases ht
    · rename_i off hfk
      simp only [dh_ri] at ht
      split at ht
      · rename_i hlen
        cases ht
        subst hlen
        simp only [dh_do] at ho
        split at ho
        · split at ho
          · rename_i hsp
            cases ho
            exact dh_s_putZ F hf hfk hsp.1 (hsp.2 (by first | trivial | rfl)) hd hk
          · cases ho
        · cases ho
      · cases ht
    · cases ht
theorem dh_step_iaload (F : dh_Fx p s m args c cc nL own D ta A adr H0 ri0 sh) {d : Nat} (hA : ∀ q, H0.size ≤ q → A q) (hRm : d + 1 ≤ R.frames ∧ 60 * d + 60 ≤ R.locals) (hkc : kc ≤ R.cells ∧ ks ≤ R.slots) {C : dh_C} (hC : ∀ mn as h Qv, C mn as h Qv → dh_Mt l d mn as h Qv) {bp : List Nat} {rtc : Nat} {RQ : Option dh_V → dh_AH → Prop} (hRt : dh_Rt p l e R s m args below meth c Q adr ta D A H0 ri0 kc ks cc rtc RQ) {pc len : Nat} {r : dh_RI}  {ls : dh_LS} {st : List dh_V} {h : dh_AH} {o : dh_O} (hd : decode cc pc = .ok (.iaload, len)) (ht : dh_tr nL rtc own bp pc (.iaload) len = some r) (ho : dh_do sh r ls st h = some o) (hk : dh_ct (dh_OK p l e R s m args below meth c Q adr ta D A H0 ri0 nL kc ks) bp (pc + len) RQ C o) : dh_OK p l e R s m args below meth c Q adr ta D A H0 ri0 nL kc ks pc ls st h := by
  simp only [dh_tr, dh_ri] at ht
  split at ht
  · rename_i hlen
    cases ht
    subst hlen
    simp only [dh_do] at ho
    split at ho
    · split at ho
      · rename_i hsp
        split at ho
        · rename_i hi
          cases ho
          exact dh_s_iald F hsp hi hd hk
        · cases ho
      · rename_i hsp
        split at ho
        · rename_i hi
          cases ho
          exact dh_s_sald F hsp hi hd hk
        · cases ho
      · cases ho
    · cases ho
  · cases ht
theorem dh_step_baload (F : dh_Fx p s m args c cc nL own D ta A adr H0 ri0 sh) {d : Nat} (hA : ∀ q, H0.size ≤ q → A q) (hRm : d + 1 ≤ R.frames ∧ 60 * d + 60 ≤ R.locals) (hkc : kc ≤ R.cells ∧ ks ≤ R.slots) {C : dh_C} (hC : ∀ mn as h Qv, C mn as h Qv → dh_Mt l d mn as h Qv) {bp : List Nat} {rtc : Nat} {RQ : Option dh_V → dh_AH → Prop} (hRt : dh_Rt p l e R s m args below meth c Q adr ta D A H0 ri0 kc ks cc rtc RQ) {pc len : Nat} {r : dh_RI}  {ls : dh_LS} {st : List dh_V} {h : dh_AH} {o : dh_O} (hd : decode cc pc = .ok (.baload, len)) (ht : dh_tr nL rtc own bp pc (.baload) len = some r) (ho : dh_do sh r ls st h = some o) (hk : dh_ct (dh_OK p l e R s m args below meth c Q adr ta D A H0 ri0 nL kc ks) bp (pc + len) RQ C o) : dh_OK p l e R s m args below meth c Q adr ta D A H0 ri0 nL kc ks pc ls st h := by
  simp only [dh_tr, dh_ri] at ht
  split at ht
  · rename_i hlen
    cases ht
    subst hlen
    simp only [dh_do] at ho
    split at ho
    · split at ho
      · rename_i hsp
        split at ho
        · rename_i hi
          cases ho
          exact dh_s_bald F hsp hi hd hk
        · cases ho
      · rename_i hsp
        split at ho
        · rename_i hi
          cases ho
          exact dh_s_zald F hsp hi hd hk
        · cases ho
      · cases ho
    · cases ho
  · cases ht
theorem dh_step_laload (F : dh_Fx p s m args c cc nL own D ta A adr H0 ri0 sh) {d : Nat} (hA : ∀ q, H0.size ≤ q → A q) (hRm : d + 1 ≤ R.frames ∧ 60 * d + 60 ≤ R.locals) (hkc : kc ≤ R.cells ∧ ks ≤ R.slots) {C : dh_C} (hC : ∀ mn as h Qv, C mn as h Qv → dh_Mt l d mn as h Qv) {bp : List Nat} {rtc : Nat} {RQ : Option dh_V → dh_AH → Prop} (hRt : dh_Rt p l e R s m args below meth c Q adr ta D A H0 ri0 kc ks cc rtc RQ) {pc len : Nat} {r : dh_RI}  {ls : dh_LS} {st : List dh_V} {h : dh_AH} {o : dh_O} (hd : decode cc pc = .ok (.laload, len)) (ht : dh_tr nL rtc own bp pc (.laload) len = some r) (ho : dh_do sh r ls st h = some o) (hk : dh_ct (dh_OK p l e R s m args below meth c Q adr ta D A H0 ri0 nL kc ks) bp (pc + len) RQ C o) : dh_OK p l e R s m args below meth c Q adr ta D A H0 ri0 nL kc ks pc ls st h := by
  simp only [dh_tr, dh_ri] at ht
  split at ht
  · rename_i hlen
    cases ht
    subst hlen
    simp only [dh_do] at ho
    split at ho
    · split at ho
      · rename_i hsp
        split at ho
        · rename_i hi
          cases ho
          exact dh_s_lald F hsp hi hd hk
        · cases ho
      · cases ho
    · cases ho
  · cases ht
theorem dh_step_aaload (F : dh_Fx p s m args c cc nL own D ta A adr H0 ri0 sh) {d : Nat} (hA : ∀ q, H0.size ≤ q → A q) (hRm : d + 1 ≤ R.frames ∧ 60 * d + 60 ≤ R.locals) (hkc : kc ≤ R.cells ∧ ks ≤ R.slots) {C : dh_C} (hC : ∀ mn as h Qv, C mn as h Qv → dh_Mt l d mn as h Qv) {bp : List Nat} {rtc : Nat} {RQ : Option dh_V → dh_AH → Prop} (hRt : dh_Rt p l e R s m args below meth c Q adr ta D A H0 ri0 kc ks cc rtc RQ) {pc len : Nat} {r : dh_RI}  {ls : dh_LS} {st : List dh_V} {h : dh_AH} {o : dh_O} (hd : decode cc pc = .ok (.aaload, len)) (ht : dh_tr nL rtc own bp pc (.aaload) len = some r) (ho : dh_do sh r ls st h = some o) (hk : dh_ct (dh_OK p l e R s m args below meth c Q adr ta D A H0 ri0 nL kc ks) bp (pc + len) RQ C o) : dh_OK p l e R s m args below meth c Q adr ta D A H0 ri0 nL kc ks pc ls st h := by
  simp only [dh_tr, dh_ri] at ht
  split at ht
  · rename_i hlen
    cases ht
    subst hlen
    simp only [dh_do] at ho
    split at ho
    · split at ho
      · rename_i hsp
        split at ho
        · rename_i hi
          cases ho
          exact dh_s_aald5 F hsp hi hd hk
        · cases ho
      · rename_i hsp
        split at ho
        · rename_i hi
          cases ho
          exact dh_s_aald6 F hsp hi hd hk
        · cases ho
      · rename_i hsp
        split at ho
        · rename_i hi
          cases ho
          exact dh_s_aald7 F hsp hi hd hk
        · cases ho
      · cases ho
    · cases ho
  · cases ht
theorem dh_step_iastore (F : dh_Fx p s m args c cc nL own D ta A adr H0 ri0 sh) {d : Nat} (hA : ∀ q, H0.size ≤ q → A q) (hRm : d + 1 ≤ R.frames ∧ 60 * d + 60 ≤ R.locals) (hkc : kc ≤ R.cells ∧ ks ≤ R.slots) {C : dh_C} (hC : ∀ mn as h Qv, C mn as h Qv → dh_Mt l d mn as h Qv) {bp : List Nat} {rtc : Nat} {RQ : Option dh_V → dh_AH → Prop} (hRt : dh_Rt p l e R s m args below meth c Q adr ta D A H0 ri0 kc ks cc rtc RQ) {pc len : Nat} {r : dh_RI}  {ls : dh_LS} {st : List dh_V} {h : dh_AH} {o : dh_O} (hd : decode cc pc = .ok (.iastore, len)) (ht : dh_tr nL rtc own bp pc (.iastore) len = some r) (ho : dh_do sh r ls st h = some o) (hk : dh_ct (dh_OK p l e R s m args below meth c Q adr ta D A H0 ri0 nL kc ks) bp (pc + len) RQ C o) : dh_OK p l e R s m args below meth c Q adr ta D A H0 ri0 nL kc ks pc ls st h := by
  simp only [dh_tr, dh_ri] at ht
  split at ht
  · rename_i hlen
    cases ht
    subst hlen
    simp only [dh_do] at ho
    split at ho
    · split at ho
      · rename_i hsp
        split at ho
        · rename_i hi
          cases ho
          exact dh_s_iast F hsp hi hd hk
        · cases ho
      · cases ho
    · cases ho
  · cases ht
theorem dh_step_bastore (F : dh_Fx p s m args c cc nL own D ta A adr H0 ri0 sh) {d : Nat} (hA : ∀ q, H0.size ≤ q → A q) (hRm : d + 1 ≤ R.frames ∧ 60 * d + 60 ≤ R.locals) (hkc : kc ≤ R.cells ∧ ks ≤ R.slots) {C : dh_C} (hC : ∀ mn as h Qv, C mn as h Qv → dh_Mt l d mn as h Qv) {bp : List Nat} {rtc : Nat} {RQ : Option dh_V → dh_AH → Prop} (hRt : dh_Rt p l e R s m args below meth c Q adr ta D A H0 ri0 kc ks cc rtc RQ) {pc len : Nat} {r : dh_RI}  {ls : dh_LS} {st : List dh_V} {h : dh_AH} {o : dh_O} (hd : decode cc pc = .ok (.bastore, len)) (ht : dh_tr nL rtc own bp pc (.bastore) len = some r) (ho : dh_do sh r ls st h = some o) (hk : dh_ct (dh_OK p l e R s m args below meth c Q adr ta D A H0 ri0 nL kc ks) bp (pc + len) RQ C o) : dh_OK p l e R s m args below meth c Q adr ta D A H0 ri0 nL kc ks pc ls st h := by
  simp only [dh_tr, dh_ri] at ht
  split at ht
  · rename_i hlen
    cases ht
    subst hlen
    simp only [dh_do] at ho
    split at ho
    · split at ho
      · rename_i hsp
        split at ho
        · rename_i hi
          cases ho
          exact dh_s_bast F hsp hi hd hk
        · cases ho
      · rename_i hsp
        split at ho
        · rename_i hi
          cases ho
          exact dh_s_zast F hsp hi.1 hi.2 hd hk
        · cases ho
      · cases ho
    · cases ho
  · cases ht
theorem dh_step_lastore (F : dh_Fx p s m args c cc nL own D ta A adr H0 ri0 sh) {d : Nat} (hA : ∀ q, H0.size ≤ q → A q) (hRm : d + 1 ≤ R.frames ∧ 60 * d + 60 ≤ R.locals) (hkc : kc ≤ R.cells ∧ ks ≤ R.slots) {C : dh_C} (hC : ∀ mn as h Qv, C mn as h Qv → dh_Mt l d mn as h Qv) {bp : List Nat} {rtc : Nat} {RQ : Option dh_V → dh_AH → Prop} (hRt : dh_Rt p l e R s m args below meth c Q adr ta D A H0 ri0 kc ks cc rtc RQ) {pc len : Nat} {r : dh_RI}  {ls : dh_LS} {st : List dh_V} {h : dh_AH} {o : dh_O} (hd : decode cc pc = .ok (.lastore, len)) (ht : dh_tr nL rtc own bp pc (.lastore) len = some r) (ho : dh_do sh r ls st h = some o) (hk : dh_ct (dh_OK p l e R s m args below meth c Q adr ta D A H0 ri0 nL kc ks) bp (pc + len) RQ C o) : dh_OK p l e R s m args below meth c Q adr ta D A H0 ri0 nL kc ks pc ls st h := by
  simp only [dh_tr, dh_ri] at ht
  split at ht
  · rename_i hlen
    cases ht
    subst hlen
    simp only [dh_do] at ho
    split at ho
    · split at ho
      · rename_i hsp
        split at ho
        · rename_i hi
          cases ho
          exact dh_s_last F hsp hi hd hk
        · cases ho
      · cases ho
    · cases ho
  · cases ht
theorem dh_step_arraylength (F : dh_Fx p s m args c cc nL own D ta A adr H0 ri0 sh) {d : Nat} (hA : ∀ q, H0.size ≤ q → A q) (hRm : d + 1 ≤ R.frames ∧ 60 * d + 60 ≤ R.locals) (hkc : kc ≤ R.cells ∧ ks ≤ R.slots) {C : dh_C} (hC : ∀ mn as h Qv, C mn as h Qv → dh_Mt l d mn as h Qv) {bp : List Nat} {rtc : Nat} {RQ : Option dh_V → dh_AH → Prop} (hRt : dh_Rt p l e R s m args below meth c Q adr ta D A H0 ri0 kc ks cc rtc RQ) {pc len : Nat} {r : dh_RI}  {ls : dh_LS} {st : List dh_V} {h : dh_AH} {o : dh_O} (hd : decode cc pc = .ok (.arraylength, len)) (ht : dh_tr nL rtc own bp pc (.arraylength) len = some r) (ho : dh_do sh r ls st h = some o) (hk : dh_ct (dh_OK p l e R s m args below meth c Q adr ta D A H0 ri0 nL kc ks) bp (pc + len) RQ C o) : dh_OK p l e R s m args below meth c Q adr ta D A H0 ri0 nL kc ks pc ls st h := by
  simp only [dh_tr, dh_ri] at ht
  split at ht
  · rename_i hlen
    cases ht
    subst hlen
    simp only [dh_do] at ho
    split at ho
    · split at ho
      · rename_i hsp
        cases ho
        exact dh_s_len1 F (dh_sh_lt (F.2.2.2.2.2.2.2.1 _ _ hsp (by show (1 : Nat) ≠ 8; decide))) hsp hd hk
      · rename_i hsp
        cases ho
        exact dh_s_len2 F (dh_sh_lt (F.2.2.2.2.2.2.2.1 _ _ hsp (by show (2 : Nat) ≠ 8; decide))) hsp hd hk
      · rename_i hsp
        cases ho
        exact dh_s_len8 F hsp hd hk
      · cases ho
    · cases ho
  · cases ht
theorem dh_step_aconst_null (F : dh_Fx p s m args c cc nL own D ta A adr H0 ri0 sh) {d : Nat} (hA : ∀ q, H0.size ≤ q → A q) (hRm : d + 1 ≤ R.frames ∧ 60 * d + 60 ≤ R.locals) (hkc : kc ≤ R.cells ∧ ks ≤ R.slots) {C : dh_C} (hC : ∀ mn as h Qv, C mn as h Qv → dh_Mt l d mn as h Qv) {bp : List Nat} {rtc : Nat} {RQ : Option dh_V → dh_AH → Prop} (hRt : dh_Rt p l e R s m args below meth c Q adr ta D A H0 ri0 kc ks cc rtc RQ) {pc len : Nat} {r : dh_RI}  {ls : dh_LS} {st : List dh_V} {h : dh_AH} {o : dh_O} (hd : decode cc pc = .ok (.aconst_null, len)) (ht : dh_tr nL rtc own bp pc (.aconst_null) len = some r) (ho : dh_do sh r ls st h = some o) (hk : dh_ct (dh_OK p l e R s m args below meth c Q adr ta D A H0 ri0 nL kc ks) bp (pc + len) RQ C o) : dh_OK p l e R s m args below meth c Q adr ta D A H0 ri0 nL kc ks pc ls st h := by
  simp only [dh_tr, dh_ri] at ht
  split at ht
  · rename_i hlen
    cases ht
    subst hlen
    simp only [dh_do] at ho
    cases ho
    exact dh_s_null F hd hk
  · cases ht
theorem dh_step_invokevirtual (F : dh_Fx p s m args c cc nL own D ta A adr H0 ri0 sh) {d : Nat} (hA : ∀ q, H0.size ≤ q → A q) (hRm : d + 1 ≤ R.frames ∧ 60 * d + 60 ≤ R.locals) (hkc : kc ≤ R.cells ∧ ks ≤ R.slots) {C : dh_C} (hC : ∀ mn as h Qv, C mn as h Qv → dh_Mt l d mn as h Qv) {bp : List Nat} {rtc : Nat} {RQ : Option dh_V → dh_AH → Prop} (hRt : dh_Rt p l e R s m args below meth c Q adr ta D A H0 ri0 kc ks cc rtc RQ) {pc len : Nat} {r : dh_RI} {idx : Nat} {ls : dh_LS} {st : List dh_V} {h : dh_AH} {o : dh_O} (hd : decode cc pc = .ok (.invokevirtual idx, len)) (ht : dh_tr nL rtc own bp pc (.invokevirtual idx) len = some r) (ho : dh_do sh r ls st h = some o) (hk : dh_ct (dh_OK p l e R s m args below meth c Q adr ta D A H0 ri0 nL kc ks) bp (pc + len) RQ C o) : dh_OK p l e R s m args below meth c Q adr ta D A H0 ri0 nL kc ks pc ls st h := by
  simp only [dh_tr] at ht
  cases hf : dh_mf own idx with
  | none => rw [hf] at ht; cases ht
  | some q =>
    obtain ⟨q1, q2, mn, q4, wi⟩ := q
    rw [hf] at ht
    simp only [] at ht
    split at ht
    · rename_i hlen
      subst hlen
      unfold dh_inv at ht
      cases hmi : dh_mt[mn]? with
      | none => rw [hmi] at ht; cases ht
      | some mi =>
        rw [hmi] at ht
        simp only [] at ht
        split at ht
        · rename_i hcnd
          cases ht
          simp only [Bool.false_eq_true, if_false, dh_do] at ho
          split at ho
          · rename_i p0 as hta
            split at ho
            · rename_i hc
              cases ho
              exact dh_s_virt F hA hRm hkc hC hf hmi hcnd.2 hcnd.1 hd hta (by simpa using hc.1) hc.2.1 hc.2.2 hk
            · cases ho
          · cases ho
        · cases ht
    · cases ht
theorem dh_step_invokestatic (F : dh_Fx p s m args c cc nL own D ta A adr H0 ri0 sh) {d : Nat} (hA : ∀ q, H0.size ≤ q → A q) (hRm : d + 1 ≤ R.frames ∧ 60 * d + 60 ≤ R.locals) (hkc : kc ≤ R.cells ∧ ks ≤ R.slots) {C : dh_C} (hC : ∀ mn as h Qv, C mn as h Qv → dh_Mt l d mn as h Qv) {bp : List Nat} {rtc : Nat} {RQ : Option dh_V → dh_AH → Prop} (hRt : dh_Rt p l e R s m args below meth c Q adr ta D A H0 ri0 kc ks cc rtc RQ) {pc len : Nat} {r : dh_RI} {idx : Nat} {ls : dh_LS} {st : List dh_V} {h : dh_AH} {o : dh_O} (hd : decode cc pc = .ok (.invokestatic idx, len)) (ht : dh_tr nL rtc own bp pc (.invokestatic idx) len = some r) (ho : dh_do sh r ls st h = some o) (hk : dh_ct (dh_OK p l e R s m args below meth c Q adr ta D A H0 ri0 nL kc ks) bp (pc + len) RQ C o) : dh_OK p l e R s m args below meth c Q adr ta D A H0 ri0 nL kc ks pc ls st h := by
  simp only [dh_tr] at ht
  cases hy : dh_yf own idx with
  | some z =>
    rw [hy] at ht
    simp only [dh_ri] at ht
    split at ht
    · rename_i hlen
      cases ht
      subst hlen
      simp only [dh_do] at ho
      split at ho
      · split at ho
        · rename_i hp0 hq0
          split at ho
          · rename_i hc
            cases ho
            exact dh_s_copy F hRm hkc hy hd hp0 hq0 hc hk
          · cases ho
        · cases ho
      · cases ho
    · cases ht
  | none =>
    rw [hy] at ht
    simp only [] at ht
    cases hh : dh_hf own idx with
    | some z =>
      obtain ⟨z1, z2, a, z4⟩ := z
      rw [hh] at ht
      simp only [dh_ri] at ht
      split at ht
      · rename_i hlen
        cases ht
        subst hlen
        match a, hh, ho with
        | 0, hh, ho =>
          simp only [dh_do] at ho
          split at ho
          · split at ho
            · rename_i hw
              cases ho
              exact dh_s_mmax F hRm hkc (w0 := 0) hh rfl hd hw hk
            · cases ho
          · cases ho
        | 1, hh, ho =>
          simp only [dh_do] at ho
          split at ho
          · split at ho
            · rename_i hw
              cases ho
              exact dh_s_mmin F hRm hkc (w0 := 0) hh rfl hd hw hk
            · cases ho
          · cases ho
        | 2, hh, ho =>
          simp only [dh_do] at ho
          split at ho
          · split at ho
            · rename_i hw
              cases ho
              exact dh_s_mmaxL F hRm hkc (w0 := 0) hh rfl hd hw hk
            · cases ho
          · cases ho
        | 3, hh, ho =>
          simp only [dh_do] at ho
          split at ho
          · split at ho
            · rename_i hw
              cases ho
              exact dh_s_mminL F hRm hkc (w0 := 0) hh rfl hd hw hk
            · cases ho
          · cases ho
        | n + 4, hh, ho => simp [dh_do] at ho
      · cases ht
    | none =>
      rw [hh] at ht
      simp only [] at ht
      cases hf : dh_mf own idx with
      | none => rw [hf] at ht; cases ht
      | some q =>
        obtain ⟨q1, q2, mn, q4, wi⟩ := q
        rw [hf] at ht
        simp only [] at ht
        split at ht
        · rename_i hlen
          subst hlen
          unfold dh_inv at ht
          cases hmi : dh_mt[mn]? with
          | none => rw [hmi] at ht; cases ht
          | some mi =>
            rw [hmi] at ht
            simp only [] at ht
            split at ht
            · rename_i hcnd
              cases ht
              simp only [if_true, dh_do] at ho
              split at ho
              · rename_i hc
                cases ho
                exact dh_s_stat F hA hRm hkc hC hf hmi hcnd.2 hcnd.1 hd hc.1 hc.2 hk
              · cases ho
            · cases ht
        · cases ht
theorem dh_step_lookupswitch (F : dh_Fx p s m args c cc nL own D ta A adr H0 ri0 sh) {d : Nat} (hA : ∀ q, H0.size ≤ q → A q) (hRm : d + 1 ≤ R.frames ∧ 60 * d + 60 ≤ R.locals) (hkc : kc ≤ R.cells ∧ ks ≤ R.slots) {C : dh_C} (hC : ∀ mn as h Qv, C mn as h Qv → dh_Mt l d mn as h Qv) {bp : List Nat} {rtc : Nat} {RQ : Option dh_V → dh_AH → Prop} (hRt : dh_Rt p l e R s m args below meth c Q adr ta D A H0 ri0 kc ks cc rtc RQ) {pc len : Nat} {r : dh_RI} {df : Int} {ps : Array (Int × Int)} {ls : dh_LS} {st : List dh_V} {h : dh_AH} {o : dh_O} (hd : decode cc pc = .ok (.lookupswitch df ps, len)) (ht : dh_tr nL rtc own bp pc (.lookupswitch df ps) len = some r) (ho : dh_do sh r ls st h = some o) (hk : dh_ct (dh_OK p l e R s m args below meth c Q adr ta D A H0 ri0 nL kc ks) bp (pc + len) RQ C o) : dh_OK p l e R s m args below meth c Q adr ta D A H0 ri0 nL kc ks pc ls st h := by
  simp only [dh_tr] at ht
  split at ht
  · rename_i b l0 hb hl0
    split at ht
    · rename_i hso
      cases ht
      simp only [dh_do] at ho
      split at ho
      · cases ho
        intro rls rst H locs hl hs hR
        obtain ⟨n, xs, rfl, e1, hs_6⟩ := dh_rs_i hs
        clear hs
        have hs := hs_6
        clear hs_6
        subst e1
        obtain ⟨off, g1, g2⟩ := dh_prs_at n.toInt hl0 hb
        obtain ⟨t, hbt, htt⟩ := dh_tgt_at g2
        exact lv_lookup F.1 F.2.1 hd hso g1 htt (hk t hbt _ _ _ _ hl hs hR)
      · cases ho
    · cases ht
  · cases ht
theorem dh_step_tableswitch (F : dh_Fx p s m args c cc nL own D ta A adr H0 ri0 sh) {d : Nat} (hA : ∀ q, H0.size ≤ q → A q) (hRm : d + 1 ≤ R.frames ∧ 60 * d + 60 ≤ R.locals) (hkc : kc ≤ R.cells ∧ ks ≤ R.slots) {C : dh_C} (hC : ∀ mn as h Qv, C mn as h Qv → dh_Mt l d mn as h Qv) {bp : List Nat} {rtc : Nat} {RQ : Option dh_V → dh_AH → Prop} (hRt : dh_Rt p l e R s m args below meth c Q adr ta D A H0 ri0 kc ks cc rtc RQ) {pc len : Nat} {r : dh_RI} {df lo hi : Int} {offs : Array Int} {ls : dh_LS} {st : List dh_V} {h : dh_AH} {o : dh_O} (hd : decode cc pc = .ok (.tableswitch df lo hi offs, len)) (ht : dh_tr nL rtc own bp pc (.tableswitch df lo hi offs) len = some r) (ho : dh_do sh r ls st h = some o) (hk : dh_ct (dh_OK p l e R s m args below meth c Q adr ta D A H0 ri0 nL kc ks) bp (pc + len) RQ C o) : dh_OK p l e R s m args below meth c Q adr ta D A H0 ri0 nL kc ks pc ls st h := by
  simp only [dh_tr] at ht
  split at ht
  · rename_i b l0 hb hl0
    split at ht
    · rename_i hso
      cases ht
      simp only [dh_do] at ho
      split at ho
      · cases ho
        intro rls rst H locs hl hs hR
        obtain ⟨n, xs, rfl, e1, hs_7⟩ := dh_rs_i hs
        clear hs
        have hs := hs_7
        clear hs_7
        subst e1
        obtain ⟨g1, g2⟩ := dh_lows_at (b := b) lo n.toInt hl0
        by_cases hx : n.toInt < lo ∨ hi < n.toInt
        · obtain ⟨t, hbt, htt⟩ := dh_tgt_at hb
          have e2 := g1 (by rcases hx with hx | hx; exact Or.inl hx; exact Or.inr (by omega))
          exact lv_tableOut F.1 F.2.1 hd hx htt (hk t (by show bp[dh_sw l0 b n.toInt]? = _; rw [e2]; exact hbt) _ _ _ _ hl hs hR)
        · obtain ⟨off, k1, k2⟩ := g2 (by omega) (by omega)
          obtain ⟨t, hbt, htt⟩ := dh_tgt_at k2
          rw [Array.getElem?_toList] at k1
          exact lv_tableIn F.1 F.2.1 hd (by omega) (by omega) k1 htt (hk t hbt _ _ _ _ hl hs hR)
      · cases ho
    · cases ht
  · cases ht
theorem dh_step (F : dh_Fx p s m args c cc nL own D ta A adr H0 ri0 sh) {d : Nat} (hA : ∀ q, H0.size ≤ q → A q) (hRm : d + 1 ≤ R.frames ∧ 60 * d + 60 ≤ R.locals) (hkc : kc ≤ R.cells ∧ ks ≤ R.slots) {C : dh_C} (hC : ∀ mn as h Qv, C mn as h Qv → dh_Mt l d mn as h Qv) {bp : List Nat} {rtc : Nat} {RQ : Option dh_V → dh_AH → Prop} (hRt : dh_Rt p l e R s m args below meth c Q adr ta D A H0 ri0 kc ks cc rtc RQ) {pc len : Nat} {r : dh_RI} {i : Instr} {ls : dh_LS} {st : List dh_V} {h : dh_AH} {o : dh_O} (hd : decode cc pc = .ok (i, len)) (ht : dh_tr nL rtc own bp pc (i) len = some r) (ho : dh_do sh r ls st h = some o) (hk : dh_ct (dh_OK p l e R s m args below meth c Q adr ta D A H0 ri0 nL kc ks) bp (pc + len) RQ C o) : dh_OK p l e R s m args below meth c Q adr ta D A H0 ri0 nL kc ks pc ls st h := by
  cases i with
  | iload k => exact dh_step_iload F hA hRm hkc hC hRt hd ht ho hk
  | iload_n k => exact dh_step_iload_n F hA hRm hkc hC hRt hd ht ho hk
  | lload k => exact dh_step_lload F hA hRm hkc hC hRt hd ht ho hk
  | lload_n k => exact dh_step_lload_n F hA hRm hkc hC hRt hd ht ho hk
  | aload k => exact dh_step_aload F hA hRm hkc hC hRt hd ht ho hk
  | aload_n k => exact dh_step_aload_n F hA hRm hkc hC hRt hd ht ho hk
  | istore k => exact dh_step_istore F hA hRm hkc hC hRt hd ht ho hk
  | istore_n k => exact dh_step_istore_n F hA hRm hkc hC hRt hd ht ho hk
  | astore k => exact dh_step_astore F hA hRm hkc hC hRt hd ht ho hk
  | astore_n k => exact dh_step_astore_n F hA hRm hkc hC hRt hd ht ho hk
  | lstore k => exact dh_step_lstore F hA hRm hkc hC hRt hd ht ho hk
  | lstore_n k => exact dh_step_lstore_n F hA hRm hkc hC hRt hd ht ho hk
  | iconst n => exact dh_step_iconst F hA hRm hkc hC hRt hd ht ho hk
  | bipush n => exact dh_step_bipush F hA hRm hkc hC hRt hd ht ho hk
  | sipush n => exact dh_step_sipush F hA hRm hkc hC hRt hd ht ho hk
  | lconst n => exact dh_step_lconst F hA hRm hkc hC hRt hd ht ho hk
  | ldc idx => exact dh_step_ldc F hA hRm hkc hC hRt hd ht ho hk
  | ldc_w idx => exact dh_step_ldc_w F hA hRm hkc hC hRt hd ht ho hk
  | ldc2_w idx => exact dh_step_ldc2_w F hA hRm hkc hC hRt hd ht ho hk
  | iadd  => exact dh_step_iadd F hA hRm hkc hC hRt hd ht ho hk
  | isub  => exact dh_step_isub F hA hRm hkc hC hRt hd ht ho hk
  | imul  => exact dh_step_imul F hA hRm hkc hC hRt hd ht ho hk
  | iand  => exact dh_step_iand F hA hRm hkc hC hRt hd ht ho hk
  | ior  => exact dh_step_ior F hA hRm hkc hC hRt hd ht ho hk
  | ishl  => exact dh_step_ishl F hA hRm hkc hC hRt hd ht ho hk
  | ishr  => exact dh_step_ishr F hA hRm hkc hC hRt hd ht ho hk
  | iushr  => exact dh_step_iushr F hA hRm hkc hC hRt hd ht ho hk
  | ladd  => exact dh_step_ladd F hA hRm hkc hC hRt hd ht ho hk
  | lsub  => exact dh_step_lsub F hA hRm hkc hC hRt hd ht ho hk
  | lmul  => exact dh_step_lmul F hA hRm hkc hC hRt hd ht ho hk
  | land  => exact dh_step_land F hA hRm hkc hC hRt hd ht ho hk
  | lor  => exact dh_step_lor F hA hRm hkc hC hRt hd ht ho hk
  | lshl  => exact dh_step_lshl F hA hRm hkc hC hRt hd ht ho hk
  | lshr  => exact dh_step_lshr F hA hRm hkc hC hRt hd ht ho hk
  | lushr  => exact dh_step_lushr F hA hRm hkc hC hRt hd ht ho hk
  | idiv  => exact dh_step_idiv F hA hRm hkc hC hRt hd ht ho hk
  | irem  => exact dh_step_irem F hA hRm hkc hC hRt hd ht ho hk
  | ldiv  => exact dh_step_ldiv F hA hRm hkc hC hRt hd ht ho hk
  | lrem  => exact dh_step_lrem F hA hRm hkc hC hRt hd ht ho hk
  | i2l  => exact dh_step_i2l F hA hRm hkc hC hRt hd ht ho hk
  | l2i  => exact dh_step_l2i F hA hRm hkc hC hRt hd ht ho hk
  | i2b  => exact dh_step_i2b F hA hRm hkc hC hRt hd ht ho hk
  | lcmp  => exact dh_step_lcmp F hA hRm hkc hC hRt hd ht ho hk
  | dup  => exact dh_step_dup F hA hRm hkc hC hRt hd ht ho hk
  | pop  => exact dh_step_pop F hA hRm hkc hC hRt hd ht ho hk
  | iinc k n => exact dh_step_iinc F hA hRm hkc hC hRt hd ht ho hk
  | ifCond k off => exact dh_step_ifCond F hA hRm hkc hC hRt hd ht ho hk
  | if_icmp k off => exact dh_step_if_icmp F hA hRm hkc hC hRt hd ht ho hk
  | ifnull off => exact dh_step_ifnull F hA hRm hkc hC hRt hd ht ho hk
  | ifnonnull off => exact dh_step_ifnonnull F hA hRm hkc hC hRt hd ht ho hk
  | goto off => exact dh_step_goto F hA hRm hkc hC hRt hd ht ho hk
  | ireturn  => exact dh_step_ireturn F hA hRm hkc hC hRt hd ht ho hk
  | lreturn  => exact dh_step_lreturn F hA hRm hkc hC hRt hd ht ho hk
  | areturn  => exact dh_step_areturn F hA hRm hkc hC hRt hd ht ho hk
  | return_  => exact dh_step_return_ F hA hRm hkc hC hRt hd ht ho hk
  | getfield idx => exact dh_step_getfield F hA hRm hkc hC hRt hd ht ho hk
  | putfield idx => exact dh_step_putfield F hA hRm hkc hC hRt hd ht ho hk
  | iaload  => exact dh_step_iaload F hA hRm hkc hC hRt hd ht ho hk
  | baload  => exact dh_step_baload F hA hRm hkc hC hRt hd ht ho hk
  | laload  => exact dh_step_laload F hA hRm hkc hC hRt hd ht ho hk
  | aaload  => exact dh_step_aaload F hA hRm hkc hC hRt hd ht ho hk
  | iastore  => exact dh_step_iastore F hA hRm hkc hC hRt hd ht ho hk
  | bastore  => exact dh_step_bastore F hA hRm hkc hC hRt hd ht ho hk
  | lastore  => exact dh_step_lastore F hA hRm hkc hC hRt hd ht ho hk
  | arraylength  => exact dh_step_arraylength F hA hRm hkc hC hRt hd ht ho hk
  | aconst_null  => exact dh_step_aconst_null F hA hRm hkc hC hRt hd ht ho hk
  | invokevirtual idx => exact dh_step_invokevirtual F hA hRm hkc hC hRt hd ht ho hk
  | invokestatic idx => exact dh_step_invokestatic F hA hRm hkc hC hRt hd ht ho hk
  | lookupswitch df ps => exact dh_step_lookupswitch F hA hRm hkc hC hRt hd ht ho hk
  | tableswitch df lo hi offs => exact dh_step_tableswitch F hA hRm hkc hC hRt hd ht ho hk
  | _ => cases ht
end DHX
