def dh_Rw (adr : Nat → Nat) (ta : Nat → ClassId) (D : va_G) (A : Nat → Prop) (H0 : Heap) (ri0 : Nat → Nat → Int32) (H : Heap) (locs : List Loc) (h : dh_AH) : Prop :=
  ∃ ri rl, h = dh_ab ri rl ∧ va_P D vwCl (dh_ws adr ta ri rl) H ∧ va_D A (dh_ws adr ta ri rl) ∧ va_S A H0 H locs ∧ ∀ q, dh_sh q = none → ri q = ri0 q
/-- from every state of the machine that is as the abstract one says, the machine comes to Q -/
def dh_OK (p : Program) (l : Launch) (e : Env) (R : Room) (s : State) (m : MethodId) (args : Array Value) (below : List Frame) (meth : Method) (c : Code) (Q : State → Prop) (adr : Nat → Nat) (ta : Nat → ClassId) (D : va_G) (A : Nat → Prop) (H0 : Heap) (ri0 : Nat → Nat → Int32) (nL kc ks : Nat) (pc : Nat) (ls : dh_LS) (st : List dh_V) (h : dh_AH) : Prop :=
  ∀ (rls : Array Slot) (rst : List Value) (H : Heap) (locs : List Loc), dh_rl adr rls nL ls → dh_rs adr rst st → dh_Rw adr ta D A H0 ri0 H locs h → W p l e R s m args below meth c H locs kc ks Q (F0 m pc rls rst)
/-- what holds of a frame all along -/
def dh_Fx (p : Program) (s : State) (m : MethodId) (args : Array Value) (c : Code) (cc : ByteArray) (nL own : Nat) (D : va_G) (ta : Nat → ClassId) (A : Nat → Prop) (adr : Nat → Nat) (H0 : Heap) (ri0 : Nat → Nat → Int32) (sh : Nat → Option (Nat × Nat × Nat × Nat)) : Prop :=
  p.tables.exec = Jvm.exec ∧ c.code = cc ∧ c.maxLocals = nL ∧ s.vm.findClass (dh_cn own) = some m.cls ∧ (∀ w ∈ dh_B, w.before args s = true) ∧ dh_NW s ∧ va_K D vwCl (dh_tys ta) s ∧ (∀ q x, sh q = some x → x.1 ≠ 8 → dh_sh q = some x) ∧
  ∀ q n b c, sh q = some (8, n, b, c) → va_X (adr q) n (ri0 q) s H0 ∧ adr q < H0.size ∧ ¬ A (adr q) ∧ dh_sh q = none ∧ n < 2147483648
theorem dh_lrem (x y : Int64) : (x - x / y * y).toBitVec = x.toBitVec.srem y.toBitVec := by
  have e : x - x / y * y = x % y := by
    apply Int64.toInt_inj.mp
    rw [Int64.toInt_sub, Int64.toInt_mul, Int64.toInt_div, Int64.toInt_mod]
    have h1 : ((x.toInt.tdiv y.toInt).bmod (2 ^ 64) * y.toInt).bmod (2 ^ 64) = (x.toInt.tdiv y.toInt * y.toInt).bmod (2 ^ 64) := by
      rw [Int.bmod_mul_bmod]
    rw [h1, Int.sub_bmod_bmod]
    have h2 : x.toInt - x.toInt.tdiv y.toInt * y.toInt = x.toInt.tmod y.toInt := by
      have := Int.tmod_add_mul_tdiv x.toInt y.toInt
      rw [Int.mul_comm] at this
      omega
    rw [h2, ← Int64.toInt_mod]
    exact Int64.toInt_bmod _
  rw [e]
  rfl
section DHS
variable {p : Program} {l : Launch} {e : Env} {R : Room} {s : State} {m : MethodId} {args : Array Value} {below : List Frame} {meth : Method} {c : Code} {Q : State → Prop}
variable {cc : ByteArray} {nL own : Nat} {adr : Nat → Nat} {ta : Nat → ClassId} {D : va_G} {A : Nat → Prop} {H0 : Heap} {ri0 : Nat → Nat → Int32} {sh : Nat → Option (Nat × Nat × Nat × Nat)} {kc ks : Nat}
theorem dh_s_iload (F : dh_Fx p s m args c cc nL own D ta A adr H0 ri0 sh) {pc : Nat} {ls : dh_LS} {st : List dh_V} {h : dh_AH} {a : Nat} {x : Int} (hg : dh_lget ls a = some (.inl x)) (hd : decode cc pc = .ok (.iload a, 2)) (hk : dh_OK p l e R s m args below meth c Q adr ta D A H0 ri0 nL kc ks (pc + 2) ls (.inl x :: st) h) : dh_OK p l e R s m args below meth c Q adr ta D A H0 ri0 nL kc ks pc ls (st) h := by
  intro rls rst H locs hl hs hR
  obtain ⟨v, hv, n, rfl, e⟩ := hl.2.2 a _ hg
  exact lv_iload F.1 F.2.1 hd hv (hk _ _ _ _ hl ⟨⟨n, rfl, e⟩, hs⟩ hR)
theorem dh_s_iload_n (F : dh_Fx p s m args c cc nL own D ta A adr H0 ri0 sh) {pc : Nat} {ls : dh_LS} {st : List dh_V} {h : dh_AH} {k : Fin 4} {x : Int} (hg : dh_lget ls k.val = some (.inl x)) (hd : decode cc pc = .ok (.iload_n k, 1)) (hk : dh_OK p l e R s m args below meth c Q adr ta D A H0 ri0 nL kc ks (pc + 1) ls (.inl x :: st) h) : dh_OK p l e R s m args below meth c Q adr ta D A H0 ri0 nL kc ks pc ls (st) h := by
  intro rls rst H locs hl hs hR
  obtain ⟨v, hv, n, rfl, e⟩ := hl.2.2 k.val _ hg
  exact lv_iload_n F.1 F.2.1 hd rfl hv (hk _ _ _ _ hl ⟨⟨n, rfl, e⟩, hs⟩ hR)
theorem dh_s_lload (F : dh_Fx p s m args c cc nL own D ta A adr H0 ri0 sh) {pc : Nat} {ls : dh_LS} {st : List dh_V} {h : dh_AH} {a : Nat} {x : BitVec 64} (hg : dh_lget ls a = some (.inr (.inl x))) (hd : decode cc pc = .ok (.lload a, 2)) (hk : dh_OK p l e R s m args below meth c Q adr ta D A H0 ri0 nL kc ks (pc + 2) ls (.inr (.inl x) :: st) h) : dh_OK p l e R s m args below meth c Q adr ta D A H0 ri0 nL kc ks pc ls (st) h := by
  intro rls rst H locs hl hs hR
  obtain ⟨v, hv, n, rfl, e⟩ := hl.2.2 a _ hg
  exact lv_lload F.1 F.2.1 hd hv (hk _ _ _ _ hl ⟨⟨n, rfl, e⟩, hs⟩ hR)
theorem dh_s_lload_n (F : dh_Fx p s m args c cc nL own D ta A adr H0 ri0 sh) {pc : Nat} {ls : dh_LS} {st : List dh_V} {h : dh_AH} {k : Fin 4} {x : BitVec 64} (hg : dh_lget ls k.val = some (.inr (.inl x))) (hd : decode cc pc = .ok (.lload_n k, 1)) (hk : dh_OK p l e R s m args below meth c Q adr ta D A H0 ri0 nL kc ks (pc + 1) ls (.inr (.inl x) :: st) h) : dh_OK p l e R s m args below meth c Q adr ta D A H0 ri0 nL kc ks pc ls (st) h := by
  intro rls rst H locs hl hs hR
  obtain ⟨v, hv, n, rfl, e⟩ := hl.2.2 k.val _ hg
  exact lv_lload_n F.1 F.2.1 hd rfl hv (hk _ _ _ _ hl ⟨⟨n, rfl, e⟩, hs⟩ hR)
theorem dh_s_aload (F : dh_Fx p s m args c cc nL own D ta A adr H0 ri0 sh) {pc : Nat} {ls : dh_LS} {st : List dh_V} {h : dh_AH} {a : Nat} {x : Option Nat} (hg : dh_lget ls a = some (.inr (.inr x))) (hd : decode cc pc = .ok (.aload a, 2)) (hk : dh_OK p l e R s m args below meth c Q adr ta D A H0 ri0 nL kc ks (pc + 2) ls (.inr (.inr x) :: st) h) : dh_OK p l e R s m args below meth c Q adr ta D A H0 ri0 nL kc ks pc ls (st) h := by
  intro rls rst H locs hl hs hR
  cases x with
  | some q =>
    obtain ⟨v, hv, e⟩ := hl.2.2 a _ hg
    cases e
    exact lv_aload F.1 F.2.1 hd hv (hk _ _ _ _ hl ⟨rfl, hs⟩ hR)
  | none =>
    obtain ⟨v, hv, e⟩ := hl.2.2 a _ hg
    cases e
    exact lv_aloadN F.1 F.2.1 hd hv (hk _ _ _ _ hl ⟨rfl, hs⟩ hR)
theorem dh_s_aload_n (F : dh_Fx p s m args c cc nL own D ta A adr H0 ri0 sh) {pc : Nat} {ls : dh_LS} {st : List dh_V} {h : dh_AH} {k : Fin 4} {x : Option Nat} (hg : dh_lget ls k.val = some (.inr (.inr x))) (hd : decode cc pc = .ok (.aload_n k, 1)) (hk : dh_OK p l e R s m args below meth c Q adr ta D A H0 ri0 nL kc ks (pc + 1) ls (.inr (.inr x) :: st) h) : dh_OK p l e R s m args below meth c Q adr ta D A H0 ri0 nL kc ks pc ls (st) h := by
  intro rls rst H locs hl hs hR
  cases x with
  | some q =>
    obtain ⟨v, hv, e⟩ := hl.2.2 k.val _ hg
    cases e
    exact lv_aload_n F.1 F.2.1 hd rfl hv (hk _ _ _ _ hl ⟨rfl, hs⟩ hR)
  | none =>
    obtain ⟨v, hv, e⟩ := hl.2.2 k.val _ hg
    cases e
    exact lv_aload_nN F.1 F.2.1 hd rfl hv (hk _ _ _ _ hl ⟨rfl, hs⟩ hR)
theorem dh_s_istore (F : dh_Fx p s m args c cc nL own D ta A adr H0 ri0 sh) {pc : Nat} {ls : dh_LS} {st : List dh_V} {h : dh_AH} {a : Nat} {x : Int} (hn : a < nL) (hd : decode cc pc = .ok (.istore a, 2)) (hk : dh_OK p l e R s m args below meth c Q adr ta D A H0 ri0 nL kc ks (pc + 2) (dh_st1 ls a (.inl x)) (st) h) : dh_OK p l e R s m args below meth c Q adr ta D A H0 ri0 nL kc ks pc ls (.inl x :: st) h := by
  intro rls rst H locs hl hs hR
  obtain ⟨n, xs, rfl, e, hs_2⟩ := dh_rs_i hs
  clear hs
  have hs := hs_2
  clear hs_2
  exact lv_istore F.1 F.2.1 hd (dh_all_has hl.1 hl.2.1) hn rfl (fun ls1 hl1 => hk _ _ _ _ (dh_rl_st1 hl ⟨n, rfl, e⟩ hl1) hs hR)
theorem dh_s_istore_n (F : dh_Fx p s m args c cc nL own D ta A adr H0 ri0 sh) {pc : Nat} {ls : dh_LS} {st : List dh_V} {h : dh_AH} {k : Fin 4} {x : Int} (hn : k.val < nL) (hd : decode cc pc = .ok (.istore_n k, 1)) (hk : dh_OK p l e R s m args below meth c Q adr ta D A H0 ri0 nL kc ks (pc + 1) (dh_st1 ls k.val (.inl x)) (st) h) : dh_OK p l e R s m args below meth c Q adr ta D A H0 ri0 nL kc ks pc ls (.inl x :: st) h := by
  intro rls rst H locs hl hs hR
  obtain ⟨n, xs, rfl, e, hs_3⟩ := dh_rs_i hs
  clear hs
  have hs := hs_3
  clear hs_3
  exact lv_istore_n F.1 F.2.1 hd rfl (dh_all_has hl.1 hl.2.1) hn rfl (fun ls1 hl1 => hk _ _ _ _ (dh_rl_st1 hl ⟨n, rfl, e⟩ hl1) hs hR)
theorem dh_s_lstore (F : dh_Fx p s m args c cc nL own D ta A adr H0 ri0 sh) {pc : Nat} {ls : dh_LS} {st : List dh_V} {h : dh_AH} {a : Nat} {x : BitVec 64} (hn : a + 1 < nL) (hd : decode cc pc = .ok (.lstore a, 2)) (hk : dh_OK p l e R s m args below meth c Q adr ta D A H0 ri0 nL kc ks (pc + 2) (dh_st2 ls a (.inr (.inl x))) (st) h) : dh_OK p l e R s m args below meth c Q adr ta D A H0 ri0 nL kc ks pc ls (.inr (.inl x) :: st) h := by
  intro rls rst H locs hl hs hR
  obtain ⟨n, xs, rfl, e, hs_4⟩ := dh_rs_l hs
  clear hs
  have hs := hs_4
  clear hs_4
  exact lv_lstore F.1 F.2.1 hd (dh_all_has hl.1 hl.2.1) hn rfl (fun ls1 hl1 => hk _ _ _ _ (dh_rl_st2 hl ⟨n, rfl, e⟩ hl1) hs hR)
theorem dh_s_lstore_n (F : dh_Fx p s m args c cc nL own D ta A adr H0 ri0 sh) {pc : Nat} {ls : dh_LS} {st : List dh_V} {h : dh_AH} {k : Fin 4} {x : BitVec 64} (hn : k.val + 1 < nL) (hd : decode cc pc = .ok (.lstore_n k, 1)) (hk : dh_OK p l e R s m args below meth c Q adr ta D A H0 ri0 nL kc ks (pc + 1) (dh_st2 ls k.val (.inr (.inl x))) (st) h) : dh_OK p l e R s m args below meth c Q adr ta D A H0 ri0 nL kc ks pc ls (.inr (.inl x) :: st) h := by
  intro rls rst H locs hl hs hR
  obtain ⟨n, xs, rfl, e, hs_5⟩ := dh_rs_l hs
  clear hs
  have hs := hs_5
  clear hs_5
  exact lv_lstore_n F.1 F.2.1 hd rfl (dh_all_has hl.1 hl.2.1) hn rfl (fun ls1 hl1 => hk _ _ _ _ (dh_rl_st2 hl ⟨n, rfl, e⟩ hl1) hs hR)
theorem dh_s_astore (F : dh_Fx p s m args c cc nL own D ta A adr H0 ri0 sh) {pc : Nat} {ls : dh_LS} {st : List dh_V} {h : dh_AH} {a : Nat} {x : Option Nat} (hn : a < nL) (hd : decode cc pc = .ok (.astore a, 2)) (hk : dh_OK p l e R s m args below meth c Q adr ta D A H0 ri0 nL kc ks (pc + 2) (dh_st1 ls a (.inr (.inr x))) (st) h) : dh_OK p l e R s m args below meth c Q adr ta D A H0 ri0 nL kc ks pc ls (.inr (.inr x) :: st) h := by
  intro rls rst H locs hl hs hR
  cases x with
  | some q =>
    obtain ⟨xs, rfl, hs_6⟩ := dh_rs_r hs
    clear hs
    have hs := hs_6
    clear hs_6
    exact lv_astore F.1 F.2.1 hd (dh_all_has hl.1 hl.2.1) hn rfl (fun ls1 hl1 => hk _ _ _ _ (dh_rl_st1 hl (show dh_rv adr _ _ from rfl) hl1) hs hR)
  | none =>
    obtain ⟨xs, rfl, hs_7⟩ := dh_rs_n hs
    clear hs
    have hs := hs_7
    clear hs_7
    exact lv_astoreN F.1 F.2.1 hd (dh_all_has hl.1 hl.2.1) hn rfl (fun ls1 hl1 => hk _ _ _ _ (dh_rl_st1 hl (show dh_rv adr _ _ from rfl) hl1) hs hR)
theorem dh_s_astore_n (F : dh_Fx p s m args c cc nL own D ta A adr H0 ri0 sh) {pc : Nat} {ls : dh_LS} {st : List dh_V} {h : dh_AH} {k : Fin 4} {x : Option Nat} (hn : k.val < nL) (hd : decode cc pc = .ok (.astore_n k, 1)) (hk : dh_OK p l e R s m args below meth c Q adr ta D A H0 ri0 nL kc ks (pc + 1) (dh_st1 ls k.val (.inr (.inr x))) (st) h) : dh_OK p l e R s m args below meth c Q adr ta D A H0 ri0 nL kc ks pc ls (.inr (.inr x) :: st) h := by
  intro rls rst H locs hl hs hR
  cases x with
  | some q =>
    obtain ⟨xs, rfl, hs_8⟩ := dh_rs_r hs
    clear hs
    have hs := hs_8
    clear hs_8
    exact lv_astore_n F.1 F.2.1 hd rfl (dh_all_has hl.1 hl.2.1) hn rfl (fun ls1 hl1 => hk _ _ _ _ (dh_rl_st1 hl (show dh_rv adr _ _ from rfl) hl1) hs hR)
  | none =>
    obtain ⟨xs, rfl, hs_9⟩ := dh_rs_n hs
    clear hs
    have hs := hs_9
    clear hs_9
    exact lv_astore_nN F.1 F.2.1 hd rfl (dh_all_has hl.1 hl.2.1) hn rfl (fun ls1 hl1 => hk _ _ _ _ (dh_rl_st1 hl (show dh_rv adr _ _ from rfl) hl1) hs hR)
theorem dh_s_iconst (F : dh_Fx p s m args c cc nL own D ta A adr H0 ri0 sh) {pc : Nat} {ls : dh_LS} {st : List dh_V} {h : dh_AH} {n : Int} (h1 : -128 ≤ n ∧ n < 128) (hd : decode cc pc = .ok (.iconst n, 1)) (hk : dh_OK p l e R s m args below meth c Q adr ta D A H0 ri0 nL kc ks (pc + 1) ls (.inl n :: st) h) : dh_OK p l e R s m args below meth c Q adr ta D A H0 ri0 nL kc ks pc ls (st) h := by
  intro rls rst H locs hl hs hR
  exact lv_iconst F.1 F.2.1 hd rfl (hk _ _ _ _ hl ⟨⟨_, rfl, dh_n_of (by omega) (by omega)⟩, hs⟩ hR)
theorem dh_s_bipush (F : dh_Fx p s m args c cc nL own D ta A adr H0 ri0 sh) {pc : Nat} {ls : dh_LS} {st : List dh_V} {h : dh_AH} {n : Int} (h1 : -128 ≤ n ∧ n < 128) (hd : decode cc pc = .ok (.bipush n, 2)) (hk : dh_OK p l e R s m args below meth c Q adr ta D A H0 ri0 nL kc ks (pc + 2) ls (.inl n :: st) h) : dh_OK p l e R s m args below meth c Q adr ta D A H0 ri0 nL kc ks pc ls (st) h := by
  intro rls rst H locs hl hs hR
  exact lv_bipush F.1 F.2.1 hd rfl (hk _ _ _ _ hl ⟨⟨_, rfl, dh_n_8 h1.1 h1.2⟩, hs⟩ hR)
theorem dh_s_sipush (F : dh_Fx p s m args c cc nL own D ta A adr H0 ri0 sh) {pc : Nat} {ls : dh_LS} {st : List dh_V} {h : dh_AH} {n : Int} (h1 : -32768 ≤ n ∧ n < 32768) (hd : decode cc pc = .ok (.sipush n, 3)) (hk : dh_OK p l e R s m args below meth c Q adr ta D A H0 ri0 nL kc ks (pc + 3) ls (.inl n :: st) h) : dh_OK p l e R s m args below meth c Q adr ta D A H0 ri0 nL kc ks pc ls (st) h := by
  intro rls rst H locs hl hs hR
  exact lv_sipush F.1 F.2.1 hd rfl (hk _ _ _ _ hl ⟨⟨_, rfl, dh_n_16 h1.1 h1.2⟩, hs⟩ hR)
theorem dh_s_lconst (F : dh_Fx p s m args c cc nL own D ta A adr H0 ri0 sh) {pc : Nat} {ls : dh_LS} {st : List dh_V} {h : dh_AH} {n : Fin 2} (hd : decode cc pc = .ok (.lconst n, 1)) (hk : dh_OK p l e R s m args below meth c Q adr ta D A H0 ri0 nL kc ks (pc + 1) ls (.inr (.inl (BitVec.ofInt 64 (n.val : Int))) :: st) h) : dh_OK p l e R s m args below meth c Q adr ta D A H0 ri0 nL kc ks pc ls (st) h := by
  intro rls rst H locs hl hs hR
  exact lv_lconst F.1 F.2.1 hd rfl (hk _ _ _ _ hl ⟨⟨_, rfl, by match n with | 0 => rfl | 1 => rfl⟩, hs⟩ hR)
theorem dh_s_ldc (F : dh_Fx p s m args c cc nL own D ta A adr H0 ri0 sh) {pc : Nat} {ls : dh_LS} {st : List dh_V} {h : dh_AH} {idx : Nat} {q : Nat × Nat × Int × Nat} (hf : dh_cf own idx = some q) (hd : decode cc pc = .ok (.ldc idx, 2)) (hk : dh_OK p l e R s m args below meth c Q adr ta D A H0 ri0 nL kc ks (pc + 2) ls (.inl q.2.2.1 :: st) h) : dh_OK p l e R s m args below meth c Q adr ta D A H0 ri0 nL kc ks pc ls (st) h := by
  have he := List.all_eq_true.mp dh_okc_all _ (List.mem_of_find?_eq_some hf)
  have h0 := List.find?_some hf
  simp only [Bool.and_eq_true, beq_iff_eq, dh_okc, decide_eq_true_eq] at he h0
  obtain ⟨rfl, rfl⟩ := h0
  intro rls rst H locs hl hs hR
  exact lv_ldc F.1 F.2.1 F.2.2.2.1 (F.2.2.2.2.1 _ (dh_has_in he.1)) hd (hk _ _ _ _ hl ⟨⟨_, rfl, he.2⟩, hs⟩ hR)
theorem dh_s_ldcw (F : dh_Fx p s m args c cc nL own D ta A adr H0 ri0 sh) {pc : Nat} {ls : dh_LS} {st : List dh_V} {h : dh_AH} {idx : Nat} {q : Nat × Nat × Int × Nat} (hf : dh_cf own idx = some q) (hd : decode cc pc = .ok (.ldc_w idx, 3)) (hk : dh_OK p l e R s m args below meth c Q adr ta D A H0 ri0 nL kc ks (pc + 3) ls (.inl q.2.2.1 :: st) h) : dh_OK p l e R s m args below meth c Q adr ta D A H0 ri0 nL kc ks pc ls (st) h := by
  have he := List.all_eq_true.mp dh_okc_all _ (List.mem_of_find?_eq_some hf)
  have h0 := List.find?_some hf
  simp only [Bool.and_eq_true, beq_iff_eq, dh_okc, decide_eq_true_eq] at he h0
  obtain ⟨rfl, rfl⟩ := h0
  intro rls rst H locs hl hs hR
  exact lv_ldcw F.1 F.2.1 F.2.2.2.1 (F.2.2.2.2.1 _ (dh_has_in he.1)) hd (hk _ _ _ _ hl ⟨⟨_, rfl, he.2⟩, hs⟩ hR)
theorem dh_s_ldc2 (F : dh_Fx p s m args c cc nL own D ta A adr H0 ri0 sh) {pc : Nat} {ls : dh_LS} {st : List dh_V} {h : dh_AH} {idx : Nat} {q : Nat × Nat × Int × Nat} (hf : dh_lf own idx = some q) (hd : decode cc pc = .ok (.ldc2_w idx, 3)) (hk : dh_OK p l e R s m args below meth c Q adr ta D A H0 ri0 nL kc ks (pc + 3) ls (.inr (.inl (BitVec.ofInt 64 q.2.2.1)) :: st) h) : dh_OK p l e R s m args below meth c Q adr ta D A H0 ri0 nL kc ks pc ls (st) h := by
  have he := List.all_eq_true.mp dh_okL_all _ (List.mem_of_find?_eq_some hf)
  have h0 := List.find?_some hf
  simp only [Bool.and_eq_true, beq_iff_eq, dh_okL, decide_eq_true_eq] at he h0
  obtain ⟨rfl, rfl⟩ := h0
  intro rls rst H locs hl hs hR
  exact lv_ldc2 F.1 F.2.1 F.2.2.2.1 (F.2.2.2.2.1 _ (dh_has_in he)) hd (hk _ _ _ _ hl ⟨⟨_, rfl, rfl⟩, hs⟩ hR)
theorem dh_s_iadd (F : dh_Fx p s m args c cc nL own D ta A adr H0 ri0 sh) {pc : Nat} {ls : dh_LS} {st : List dh_V} {h : dh_AH} {x y : Int} (hd : decode cc pc = .ok (.iadd, 1)) (hk : dh_OK p l e R s m args below meth c Q adr ta D A H0 ri0 nL kc ks (pc + 1) ls (.inl (dh_wr (x + y)) :: st) h) : dh_OK p l e R s m args below meth c Q adr ta D A H0 ri0 nL kc ks pc ls (.inl y :: .inl x :: st) h := by
  intro rls rst H locs hl hs hR
  obtain ⟨n2, xs, rfl, e2, hs_10⟩ := dh_rs_i hs
  clear hs
  have hs := hs_10
  clear hs_10
  obtain ⟨n1, xs, rfl, e1, hs_11⟩ := dh_rs_i hs
  clear hs
  have hs := hs_11
  clear hs_11
  subst e1 e2
  exact lv_iadd F.1 F.2.1 hd (hk _ _ _ _ hl ⟨⟨_, rfl, dh_n_add _ _⟩, hs⟩ hR)
theorem dh_s_isub (F : dh_Fx p s m args c cc nL own D ta A adr H0 ri0 sh) {pc : Nat} {ls : dh_LS} {st : List dh_V} {h : dh_AH} {x y : Int} (hd : decode cc pc = .ok (.isub, 1)) (hk : dh_OK p l e R s m args below meth c Q adr ta D A H0 ri0 nL kc ks (pc + 1) ls (.inl (dh_wr (x - y)) :: st) h) : dh_OK p l e R s m args below meth c Q adr ta D A H0 ri0 nL kc ks pc ls (.inl y :: .inl x :: st) h := by
  intro rls rst H locs hl hs hR
  obtain ⟨n2, xs, rfl, e2, hs_12⟩ := dh_rs_i hs
  clear hs
  have hs := hs_12
  clear hs_12
  obtain ⟨n1, xs, rfl, e1, hs_13⟩ := dh_rs_i hs
  clear hs
  have hs := hs_13
  clear hs_13
  subst e1 e2
  exact lv_isub F.1 F.2.1 hd (hk _ _ _ _ hl ⟨⟨_, rfl, dh_n_sub _ _⟩, hs⟩ hR)
theorem dh_s_imul (F : dh_Fx p s m args c cc nL own D ta A adr H0 ri0 sh) {pc : Nat} {ls : dh_LS} {st : List dh_V} {h : dh_AH} {x y : Int} (hd : decode cc pc = .ok (.imul, 1)) (hk : dh_OK p l e R s m args below meth c Q adr ta D A H0 ri0 nL kc ks (pc + 1) ls (.inl (dh_wr (x * y)) :: st) h) : dh_OK p l e R s m args below meth c Q adr ta D A H0 ri0 nL kc ks pc ls (.inl y :: .inl x :: st) h := by
  intro rls rst H locs hl hs hR
  obtain ⟨n2, xs, rfl, e2, hs_14⟩ := dh_rs_i hs
  clear hs
  have hs := hs_14
  clear hs_14
  obtain ⟨n1, xs, rfl, e1, hs_15⟩ := dh_rs_i hs
  clear hs
  have hs := hs_15
  clear hs_15
  subst e1 e2
  exact lv_imul F.1 F.2.1 hd (hk _ _ _ _ hl ⟨⟨_, rfl, dh_n_mul _ _⟩, hs⟩ hR)
theorem dh_s_idiv (F : dh_Fx p s m args c cc nL own D ta A adr H0 ri0 sh) {pc : Nat} {ls : dh_LS} {st : List dh_V} {h : dh_AH} {x y : Int} (hy : ¬ y = 0) (hd : decode cc pc = .ok (.idiv, 1)) (hk : dh_OK p l e R s m args below meth c Q adr ta D A H0 ri0 nL kc ks (pc + 1) ls (.inl (dh_wr (x.tdiv y)) :: st) h) : dh_OK p l e R s m args below meth c Q adr ta D A H0 ri0 nL kc ks pc ls (.inl y :: .inl x :: st) h := by
  intro rls rst H locs hl hs hR
  obtain ⟨n2, xs, rfl, e2, hs_16⟩ := dh_rs_i hs
  clear hs
  have hs := hs_16
  clear hs_16
  obtain ⟨n1, xs, rfl, e1, hs_17⟩ := dh_rs_i hs
  clear hs
  have hs := hs_17
  clear hs_17
  subst e1 e2
  exact lv_idiv F.1 F.2.1 hd (fun q => hy (dh_n_0.mpr q)) (hk _ _ _ _ hl ⟨⟨_, rfl, by first | exact dh_n_div _ _ | exact dh_n_mod _ _⟩, hs⟩ hR)
theorem dh_s_irem (F : dh_Fx p s m args c cc nL own D ta A adr H0 ri0 sh) {pc : Nat} {ls : dh_LS} {st : List dh_V} {h : dh_AH} {x y : Int} (hy : ¬ y = 0) (hd : decode cc pc = .ok (.irem, 1)) (hk : dh_OK p l e R s m args below meth c Q adr ta D A H0 ri0 nL kc ks (pc + 1) ls (.inl (x.tmod y) :: st) h) : dh_OK p l e R s m args below meth c Q adr ta D A H0 ri0 nL kc ks pc ls (.inl y :: .inl x :: st) h := by
  intro rls rst H locs hl hs hR
  obtain ⟨n2, xs, rfl, e2, hs_18⟩ := dh_rs_i hs
  clear hs
  have hs := hs_18
  clear hs_18
  obtain ⟨n1, xs, rfl, e1, hs_19⟩ := dh_rs_i hs
  clear hs
  have hs := hs_19
  clear hs_19
  subst e1 e2
  exact lv_irem F.1 F.2.1 hd (fun q => hy (dh_n_0.mpr q)) (hk _ _ _ _ hl ⟨⟨_, rfl, by first | exact rem_toInt _ _ | exact dh_n_mod _ _⟩, hs⟩ hR)
theorem dh_s_iand (F : dh_Fx p s m args c cc nL own D ta A adr H0 ri0 sh) {pc : Nat} {ls : dh_LS} {st : List dh_V} {h : dh_AH} {x y : Int} (hd : decode cc pc = .ok (.iand, 1)) (hk : dh_OK p l e R s m args below meth c Q adr ta D A H0 ri0 nL kc ks (pc + 1) ls (.inl ((Int32.ofInt x &&& Int32.ofInt y).toInt) :: st) h) : dh_OK p l e R s m args below meth c Q adr ta D A H0 ri0 nL kc ks pc ls (.inl y :: .inl x :: st) h := by
  intro rls rst H locs hl hs hR
  obtain ⟨n2, xs, rfl, e2, hs_20⟩ := dh_rs_i hs
  clear hs
  have hs := hs_20
  clear hs_20
  obtain ⟨n1, xs, rfl, e1, hs_21⟩ := dh_rs_i hs
  clear hs
  have hs := hs_21
  clear hs_21
  exact lv_iand F.1 F.2.1 hd (hk _ _ _ _ hl ⟨⟨_, rfl, by rw [← e1, ← e2, Int32.ofInt_toInt, Int32.ofInt_toInt]⟩, hs⟩ hR)
theorem dh_s_ior (F : dh_Fx p s m args c cc nL own D ta A adr H0 ri0 sh) {pc : Nat} {ls : dh_LS} {st : List dh_V} {h : dh_AH} {x y : Int} (hd : decode cc pc = .ok (.ior, 1)) (hk : dh_OK p l e R s m args below meth c Q adr ta D A H0 ri0 nL kc ks (pc + 1) ls (.inl ((Int32.ofInt x ||| Int32.ofInt y).toInt) :: st) h) : dh_OK p l e R s m args below meth c Q adr ta D A H0 ri0 nL kc ks pc ls (.inl y :: .inl x :: st) h := by
  intro rls rst H locs hl hs hR
  obtain ⟨n2, xs, rfl, e2, hs_22⟩ := dh_rs_i hs
  clear hs
  have hs := hs_22
  clear hs_22
  obtain ⟨n1, xs, rfl, e1, hs_23⟩ := dh_rs_i hs
  clear hs
  have hs := hs_23
  clear hs_23
  exact lv_ior F.1 F.2.1 hd (hk _ _ _ _ hl ⟨⟨_, rfl, by rw [← e1, ← e2, Int32.ofInt_toInt, Int32.ofInt_toInt]⟩, hs⟩ hR)
theorem dh_s_ishl (F : dh_Fx p s m args c cc nL own D ta A adr H0 ri0 sh) {pc : Nat} {ls : dh_LS} {st : List dh_V} {h : dh_AH} {x y : Int} (hd : decode cc pc = .ok (.ishl, 1)) (hk : dh_OK p l e R s m args below meth c Q adr ta D A H0 ri0 nL kc ks (pc + 1) ls (.inl ((Int32.ofInt x <<< (Int32.ofInt y &&& 31)).toInt) :: st) h) : dh_OK p l e R s m args below meth c Q adr ta D A H0 ri0 nL kc ks pc ls (.inl y :: .inl x :: st) h := by
  intro rls rst H locs hl hs hR
  obtain ⟨n2, xs, rfl, e2, hs_24⟩ := dh_rs_i hs
  clear hs
  have hs := hs_24
  clear hs_24
  obtain ⟨n1, xs, rfl, e1, hs_25⟩ := dh_rs_i hs
  clear hs
  have hs := hs_25
  clear hs_25
  exact lv_ishl F.1 F.2.1 hd (hk _ _ _ _ hl ⟨⟨_, rfl, by rw [← e1, ← e2, Int32.ofInt_toInt, Int32.ofInt_toInt]⟩, hs⟩ hR)
theorem dh_s_ishr (F : dh_Fx p s m args c cc nL own D ta A adr H0 ri0 sh) {pc : Nat} {ls : dh_LS} {st : List dh_V} {h : dh_AH} {x y : Int} (hd : decode cc pc = .ok (.ishr, 1)) (hk : dh_OK p l e R s m args below meth c Q adr ta D A H0 ri0 nL kc ks (pc + 1) ls (.inl ((Int32.ofInt x >>> (Int32.ofInt y &&& 31)).toInt) :: st) h) : dh_OK p l e R s m args below meth c Q adr ta D A H0 ri0 nL kc ks pc ls (.inl y :: .inl x :: st) h := by
  intro rls rst H locs hl hs hR
  obtain ⟨n2, xs, rfl, e2, hs_26⟩ := dh_rs_i hs
  clear hs
  have hs := hs_26
  clear hs_26
  obtain ⟨n1, xs, rfl, e1, hs_27⟩ := dh_rs_i hs
  clear hs
  have hs := hs_27
  clear hs_27
  exact lv_ishr F.1 F.2.1 hd (hk _ _ _ _ hl ⟨⟨_, rfl, by rw [← e1, ← e2, Int32.ofInt_toInt, Int32.ofInt_toInt]⟩, hs⟩ hR)
theorem dh_s_iushr (F : dh_Fx p s m args c cc nL own D ta A adr H0 ri0 sh) {pc : Nat} {ls : dh_LS} {st : List dh_V} {h : dh_AH} {x y : Int} (hd : decode cc pc = .ok (.iushr, 1)) (hk : dh_OK p l e R s m args below meth c Q adr ta D A H0 ri0 nL kc ks (pc + 1) ls (.inl ((Int32.ofInt x).toUInt32 >>> ((Int32.ofInt y).toUInt32 &&& Int32.toUInt32 31)).toInt32.toInt :: st) h) : dh_OK p l e R s m args below meth c Q adr ta D A H0 ri0 nL kc ks pc ls (.inl y :: .inl x :: st) h := by
  intro rls rst H locs hl hs hR
  obtain ⟨n2, xs, rfl, e2, hs_28⟩ := dh_rs_i hs
  clear hs
  have hs := hs_28
  clear hs_28
  obtain ⟨n1, xs, rfl, e1, hs_29⟩ := dh_rs_i hs
  clear hs
  have hs := hs_29
  clear hs_29
  exact lv_iushr F.1 F.2.1 hd rfl (hk _ _ _ _ hl ⟨⟨_, rfl, by rw [← e1, ← e2, Int32.ofInt_toInt, Int32.ofInt_toInt]⟩, hs⟩ hR)
theorem dh_s_ladd (F : dh_Fx p s m args c cc nL own D ta A adr H0 ri0 sh) {pc : Nat} {ls : dh_LS} {st : List dh_V} {h : dh_AH} {x y : BitVec 64} (hd : decode cc pc = .ok (.ladd, 1)) (hk : dh_OK p l e R s m args below meth c Q adr ta D A H0 ri0 nL kc ks (pc + 1) ls (.inr (.inl (x + y)) :: st) h) : dh_OK p l e R s m args below meth c Q adr ta D A H0 ri0 nL kc ks pc ls (.inr (.inl y) :: .inr (.inl x) :: st) h := by
  intro rls rst H locs hl hs hR
  obtain ⟨n2, xs, rfl, e2, hs_30⟩ := dh_rs_l hs
  clear hs
  have hs := hs_30
  clear hs_30
  obtain ⟨n1, xs, rfl, e1, hs_31⟩ := dh_rs_l hs
  clear hs
  have hs := hs_31
  clear hs_31
  subst e1 e2
  exact lv_ladd F.1 F.2.1 hd (hk _ _ _ _ hl ⟨⟨_, rfl, rfl⟩, hs⟩ hR)
theorem dh_s_lsub (F : dh_Fx p s m args c cc nL own D ta A adr H0 ri0 sh) {pc : Nat} {ls : dh_LS} {st : List dh_V} {h : dh_AH} {x y : BitVec 64} (hd : decode cc pc = .ok (.lsub, 1)) (hk : dh_OK p l e R s m args below meth c Q adr ta D A H0 ri0 nL kc ks (pc + 1) ls (.inr (.inl (x - y)) :: st) h) : dh_OK p l e R s m args below meth c Q adr ta D A H0 ri0 nL kc ks pc ls (.inr (.inl y) :: .inr (.inl x) :: st) h := by
  intro rls rst H locs hl hs hR
  obtain ⟨n2, xs, rfl, e2, hs_32⟩ := dh_rs_l hs
  clear hs
  have hs := hs_32
  clear hs_32
  obtain ⟨n1, xs, rfl, e1, hs_33⟩ := dh_rs_l hs
  clear hs
  have hs := hs_33
  clear hs_33
  subst e1 e2
  exact lv_lsub F.1 F.2.1 hd (hk _ _ _ _ hl ⟨⟨_, rfl, rfl⟩, hs⟩ hR)
theorem dh_s_lmul (F : dh_Fx p s m args c cc nL own D ta A adr H0 ri0 sh) {pc : Nat} {ls : dh_LS} {st : List dh_V} {h : dh_AH} {x y : BitVec 64} (hd : decode cc pc = .ok (.lmul, 1)) (hk : dh_OK p l e R s m args below meth c Q adr ta D A H0 ri0 nL kc ks (pc + 1) ls (.inr (.inl (x * y)) :: st) h) : dh_OK p l e R s m args below meth c Q adr ta D A H0 ri0 nL kc ks pc ls (.inr (.inl y) :: .inr (.inl x) :: st) h := by
  intro rls rst H locs hl hs hR
  obtain ⟨n2, xs, rfl, e2, hs_34⟩ := dh_rs_l hs
  clear hs
  have hs := hs_34
  clear hs_34
  obtain ⟨n1, xs, rfl, e1, hs_35⟩ := dh_rs_l hs
  clear hs
  have hs := hs_35
  clear hs_35
  subst e1 e2
  exact lv_lmul F.1 F.2.1 hd (hk _ _ _ _ hl ⟨⟨_, rfl, rfl⟩, hs⟩ hR)
theorem dh_s_land (F : dh_Fx p s m args c cc nL own D ta A adr H0 ri0 sh) {pc : Nat} {ls : dh_LS} {st : List dh_V} {h : dh_AH} {x y : BitVec 64} (hd : decode cc pc = .ok (.land, 1)) (hk : dh_OK p l e R s m args below meth c Q adr ta D A H0 ri0 nL kc ks (pc + 1) ls (.inr (.inl (x &&& y)) :: st) h) : dh_OK p l e R s m args below meth c Q adr ta D A H0 ri0 nL kc ks pc ls (.inr (.inl y) :: .inr (.inl x) :: st) h := by
  intro rls rst H locs hl hs hR
  obtain ⟨n2, xs, rfl, e2, hs_36⟩ := dh_rs_l hs
  clear hs
  have hs := hs_36
  clear hs_36
  obtain ⟨n1, xs, rfl, e1, hs_37⟩ := dh_rs_l hs
  clear hs
  have hs := hs_37
  clear hs_37
  subst e1 e2
  exact lv_land F.1 F.2.1 hd (hk _ _ _ _ hl ⟨⟨_, rfl, rfl⟩, hs⟩ hR)
theorem dh_s_lor (F : dh_Fx p s m args c cc nL own D ta A adr H0 ri0 sh) {pc : Nat} {ls : dh_LS} {st : List dh_V} {h : dh_AH} {x y : BitVec 64} (hd : decode cc pc = .ok (.lor, 1)) (hk : dh_OK p l e R s m args below meth c Q adr ta D A H0 ri0 nL kc ks (pc + 1) ls (.inr (.inl (x ||| y)) :: st) h) : dh_OK p l e R s m args below meth c Q adr ta D A H0 ri0 nL kc ks pc ls (.inr (.inl y) :: .inr (.inl x) :: st) h := by
  intro rls rst H locs hl hs hR
  obtain ⟨n2, xs, rfl, e2, hs_38⟩ := dh_rs_l hs
  clear hs
  have hs := hs_38
  clear hs_38
  obtain ⟨n1, xs, rfl, e1, hs_39⟩ := dh_rs_l hs
  clear hs
  have hs := hs_39
  clear hs_39
  subst e1 e2
  exact lv_lor F.1 F.2.1 hd (hk _ _ _ _ hl ⟨⟨_, rfl, rfl⟩, hs⟩ hR)
theorem dh_s_ldiv (F : dh_Fx p s m args c cc nL own D ta A adr H0 ri0 sh) {pc : Nat} {ls : dh_LS} {st : List dh_V} {h : dh_AH} {x y : BitVec 64} (hy : ¬ y = 0) (hd : decode cc pc = .ok (.ldiv, 1)) (hk : dh_OK p l e R s m args below meth c Q adr ta D A H0 ri0 nL kc ks (pc + 1) ls (.inr (.inl (x.sdiv y)) :: st) h) : dh_OK p l e R s m args below meth c Q adr ta D A H0 ri0 nL kc ks pc ls (.inr (.inl y) :: .inr (.inl x) :: st) h := by
  intro rls rst H locs hl hs hR
  obtain ⟨n2, xs, rfl, e2, hs_40⟩ := dh_rs_l hs
  clear hs
  have hs := hs_40
  clear hs_40
  obtain ⟨n1, xs, rfl, e1, hs_41⟩ := dh_rs_l hs
  clear hs
  have hs := hs_41
  clear hs_41
  subst e1 e2
  exact lv_ldiv F.1 F.2.1 hd (fun q => hy (by rw [q]; rfl)) (hk _ _ _ _ hl ⟨⟨_, rfl, by first | rfl | exact dh_lrem _ _⟩, hs⟩ hR)
theorem dh_s_lrem (F : dh_Fx p s m args c cc nL own D ta A adr H0 ri0 sh) {pc : Nat} {ls : dh_LS} {st : List dh_V} {h : dh_AH} {x y : BitVec 64} (hy : ¬ y = 0) (hd : decode cc pc = .ok (.lrem, 1)) (hk : dh_OK p l e R s m args below meth c Q adr ta D A H0 ri0 nL kc ks (pc + 1) ls (.inr (.inl (x.srem y)) :: st) h) : dh_OK p l e R s m args below meth c Q adr ta D A H0 ri0 nL kc ks pc ls (.inr (.inl y) :: .inr (.inl x) :: st) h := by
  intro rls rst H locs hl hs hR
  obtain ⟨n2, xs, rfl, e2, hs_42⟩ := dh_rs_l hs
  clear hs
  have hs := hs_42
  clear hs_42
  obtain ⟨n1, xs, rfl, e1, hs_43⟩ := dh_rs_l hs
  clear hs
  have hs := hs_43
  clear hs_43
  subst e1 e2
  exact lv_lrem F.1 F.2.1 hd (fun q => hy (by rw [q]; rfl)) (hk _ _ _ _ hl ⟨⟨_, rfl, by first | rfl | exact dh_lrem _ _⟩, hs⟩ hR)
theorem dh_s_lshl (F : dh_Fx p s m args c cc nL own D ta A adr H0 ri0 sh) {pc : Nat} {ls : dh_LS} {st : List dh_V} {h : dh_AH} {x : BitVec 64} {y : Int} (hd : decode cc pc = .ok (.lshl, 1)) (hk : dh_OK p l e R s m args below meth c Q adr ta D A H0 ri0 nL kc ks (pc + 1) ls (.inr (.inl (x <<< (y % 64).toNat)) :: st) h) : dh_OK p l e R s m args below meth c Q adr ta D A H0 ri0 nL kc ks pc ls (.inl y :: .inr (.inl x) :: st) h := by
  intro rls rst H locs hl hs hR
  obtain ⟨n2, xs, rfl, e2, hs_44⟩ := dh_rs_i hs
  clear hs
  have hs := hs_44
  clear hs_44
  obtain ⟨n1, xs, rfl, e1, hs_45⟩ := dh_rs_l hs
  clear hs
  have hs := hs_45
  clear hs_45
  subst e1 e2
  exact lv_lshl F.1 F.2.1 hd rfl (hk _ _ _ _ hl ⟨⟨_, rfl, dh_lshl _ _⟩, hs⟩ hR)
theorem dh_s_lshr (F : dh_Fx p s m args c cc nL own D ta A adr H0 ri0 sh) {pc : Nat} {ls : dh_LS} {st : List dh_V} {h : dh_AH} {x : BitVec 64} {y : Int} (hd : decode cc pc = .ok (.lshr, 1)) (hk : dh_OK p l e R s m args below meth c Q adr ta D A H0 ri0 nL kc ks (pc + 1) ls (.inr (.inl (x.sshiftRight (y % 64).toNat)) :: st) h) : dh_OK p l e R s m args below meth c Q adr ta D A H0 ri0 nL kc ks pc ls (.inl y :: .inr (.inl x) :: st) h := by
  intro rls rst H locs hl hs hR
  obtain ⟨n2, xs, rfl, e2, hs_46⟩ := dh_rs_i hs
  clear hs
  have hs := hs_46
  clear hs_46
  obtain ⟨n1, xs, rfl, e1, hs_47⟩ := dh_rs_l hs
  clear hs
  have hs := hs_47
  clear hs_47
  subst e1 e2
  exact lv_lshr F.1 F.2.1 hd rfl (hk _ _ _ _ hl ⟨⟨_, rfl, dh_lshr _ _⟩, hs⟩ hR)
theorem dh_s_lushr (F : dh_Fx p s m args c cc nL own D ta A adr H0 ri0 sh) {pc : Nat} {ls : dh_LS} {st : List dh_V} {h : dh_AH} {x : BitVec 64} {y : Int} (hd : decode cc pc = .ok (.lushr, 1)) (hk : dh_OK p l e R s m args below meth c Q adr ta D A H0 ri0 nL kc ks (pc + 1) ls (.inr (.inl (x >>> (y % 64).toNat)) :: st) h) : dh_OK p l e R s m args below meth c Q adr ta D A H0 ri0 nL kc ks pc ls (.inl y :: .inr (.inl x) :: st) h := by
  intro rls rst H locs hl hs hR
  obtain ⟨n2, xs, rfl, e2, hs_48⟩ := dh_rs_i hs
  clear hs
  have hs := hs_48
  clear hs_48
  obtain ⟨n1, xs, rfl, e1, hs_49⟩ := dh_rs_l hs
  clear hs
  have hs := hs_49
  clear hs_49
  subst e1 e2
  exact lv_lushr F.1 F.2.1 hd rfl (hk _ _ _ _ hl ⟨⟨_, rfl, dh_lushr _ _⟩, hs⟩ hR)
theorem dh_s_i2l (F : dh_Fx p s m args c cc nL own D ta A adr H0 ri0 sh) {pc : Nat} {ls : dh_LS} {st : List dh_V} {h : dh_AH} {x : Int} (hd : decode cc pc = .ok (.i2l, 1)) (hk : dh_OK p l e R s m args below meth c Q adr ta D A H0 ri0 nL kc ks (pc + 1) ls (.inr (.inl (BitVec.ofInt 64 x)) :: st) h) : dh_OK p l e R s m args below meth c Q adr ta D A H0 ri0 nL kc ks pc ls (.inl x :: st) h := by
  intro rls rst H locs hl hs hR
  obtain ⟨n1, xs, rfl, e1, hs_50⟩ := dh_rs_i hs
  clear hs
  have hs := hs_50
  clear hs_50
  subst e1
  exact lv_i2l F.1 F.2.1 hd rfl (hk _ _ _ _ hl ⟨⟨_, rfl, dh_i2l _⟩, hs⟩ hR)
theorem dh_s_i2b (F : dh_Fx p s m args c cc nL own D ta A adr H0 ri0 sh) {pc : Nat} {ls : dh_LS} {st : List dh_V} {h : dh_AH} {x : Int} (hd : decode cc pc = .ok (.i2b, 1)) (hk : dh_OK p l e R s m args below meth c Q adr ta D A H0 ri0 nL kc ks (pc + 1) ls (.inl (Int.bmod x 256) :: st) h) : dh_OK p l e R s m args below meth c Q adr ta D A H0 ri0 nL kc ks pc ls (.inl x :: st) h := by
  intro rls rst H locs hl hs hR
  obtain ⟨n1, xs, rfl, e1, hs_51⟩ := dh_rs_i hs
  clear hs
  have hs := hs_51
  clear hs_51
  subst e1
  exact lv_i2b F.1 F.2.1 hd rfl (hk _ _ _ _ hl ⟨⟨_, rfl, dh_i2b _⟩, hs⟩ hR)
theorem dh_s_l2i (F : dh_Fx p s m args c cc nL own D ta A adr H0 ri0 sh) {pc : Nat} {ls : dh_LS} {st : List dh_V} {h : dh_AH} {x : BitVec 64} (hd : decode cc pc = .ok (.l2i, 1)) (hk : dh_OK p l e R s m args below meth c Q adr ta D A H0 ri0 nL kc ks (pc + 1) ls (.inl (dh_wr x.toInt) :: st) h) : dh_OK p l e R s m args below meth c Q adr ta D A H0 ri0 nL kc ks pc ls (.inr (.inl x) :: st) h := by
  intro rls rst H locs hl hs hR
  obtain ⟨n1, xs, rfl, e1, hs_52⟩ := dh_rs_l hs
  clear hs
  have hs := hs_52
  clear hs_52
  subst e1
  exact lv_l2i F.1 F.2.1 hd rfl (hk _ _ _ _ hl ⟨⟨_, rfl, dh_l2i _⟩, hs⟩ hR)
theorem dh_s_lcmp (F : dh_Fx p s m args c cc nL own D ta A adr H0 ri0 sh) {pc : Nat} {ls : dh_LS} {st : List dh_V} {h : dh_AH} {x y : BitVec 64} (hd : decode cc pc = .ok (.lcmp, 1)) (hk : dh_OK p l e R s m args below meth c Q adr ta D A H0 ri0 nL kc ks (pc + 1) ls (.inl (if x.toInt < y.toInt then -1 else if x = y then 0 else 1) :: st) h) : dh_OK p l e R s m args below meth c Q adr ta D A H0 ri0 nL kc ks pc ls (.inr (.inl y) :: .inr (.inl x) :: st) h := by
  intro rls rst H locs hl hs hR
  obtain ⟨n2, xs, rfl, e2, hs_53⟩ := dh_rs_l hs
  clear hs
  have hs := hs_53
  clear hs_53
  obtain ⟨n1, xs, rfl, e1, hs_54⟩ := dh_rs_l hs
  clear hs
  have hs := hs_54
  clear hs_54
  subst e1 e2
  exact W.lcmp F.1 F.2.1 hd (hk _ _ _ _ hl ⟨⟨_, rfl, dh_cmp _ _⟩, hs⟩ hR)
theorem dh_s_dup (F : dh_Fx p s m args c cc nL own D ta A adr H0 ri0 sh) {pc : Nat} {ls : dh_LS} {st : List dh_V} {h : dh_AH} {v : dh_V} (hv : dh_isL (some v) = false) (hd : decode cc pc = .ok (.dup, 1)) (hk : dh_OK p l e R s m args below meth c Q adr ta D A H0 ri0 nL kc ks (pc + 1) ls (v :: v :: st) h) : dh_OK p l e R s m args below meth c Q adr ta D A H0 ri0 nL kc ks pc ls (v :: st) h := by
  intro rls rst H locs hl hs hR
  obtain ⟨z, xs, rfl, hz, hs_55⟩ := dh_rs_cons hs
  clear hs
  have hs := hs_55
  clear hs_55
  have hc : z.category = 1 := by
    rcases lv_cat z with q | q
    · exact q
    · rw [dh_rv_cat hz q] at hv
      cases hv
  exact lv_dup F.1 F.2.1 hd hc (hk _ _ _ _ hl ⟨hz, hz, hs⟩ hR)
theorem dh_s_pop (F : dh_Fx p s m args c cc nL own D ta A adr H0 ri0 sh) {pc : Nat} {ls : dh_LS} {st : List dh_V} {h : dh_AH} {v : dh_V} (hv : dh_isL (some v) = false) (hd : decode cc pc = .ok (.pop, 1)) (hk : dh_OK p l e R s m args below meth c Q adr ta D A H0 ri0 nL kc ks (pc + 1) ls (st) h) : dh_OK p l e R s m args below meth c Q adr ta D A H0 ri0 nL kc ks pc ls (v :: st) h := by
  intro rls rst H locs hl hs hR
  obtain ⟨z, xs, rfl, hz, hs_56⟩ := dh_rs_cons hs
  clear hs
  have hs := hs_56
  clear hs_56
  have hc : z.category = 1 := by
    rcases lv_cat z with q | q
    · exact q
    · rw [dh_rv_cat hz q] at hv
      cases hv
  exact lv_pop F.1 F.2.1 hd hc (hk _ _ _ _ hl hs hR)
theorem dh_s_iinc (F : dh_Fx p s m args c cc nL own D ta A adr H0 ri0 sh) {pc : Nat} {ls : dh_LS} {st : List dh_V} {h : dh_AH} {a : Nat} {n x : Int} (hg : dh_lget ls a = some (.inl x)) (hn : a < nL) (h1 : -32768 ≤ n ∧ n < 32768) (hd : decode cc pc = .ok (.iinc a n, 3)) (hk : dh_OK p l e R s m args below meth c Q adr ta D A H0 ri0 nL kc ks (pc + 3) (dh_st1 ls a (.inl (dh_wr (x + n)))) (st) h) : dh_OK p l e R s m args below meth c Q adr ta D A H0 ri0 nL kc ks pc ls (st) h := by
  intro rls rst H locs hl hs hR
  obtain ⟨v, hv, w, rfl, e⟩ := hl.2.2 a _ hg
  obtain ⟨k, hk0⟩ := List.getElem?_of_mem (dh_all_mem hv)
  refine lv_iinc F.1 F.2.1 hd (dh_all_has hl.1 hl.2.1) hk0 rfl hn rfl (fun ls1 hl1 => hk _ _ _ _ (dh_rl_st1 hl ⟨_, rfl, ?_⟩ hl1) hs hR)
  rw [dh_n_add, e, dh_n_of (by omega) (by omega)]
theorem dh_s_icmp (F : dh_Fx p s m args c cc nL own D ta A adr H0 ri0 sh) {pc t : Nat} {ls : dh_LS} {st : List dh_V} {h : dh_AH} {x y off : Int} {k : ClassFile.Cond} (hd : decode cc pc = .ok (.if_icmp k off, 3)) (ht : (pc : Int) + off = (t : Int)) (hj : dh_cnd (dh_cc k) x y = true → dh_OK p l e R s m args below meth c Q adr ta D A H0 ri0 nL kc ks t ls st h) (hn : dh_cnd (dh_cc k) x y = false → dh_OK p l e R s m args below meth c Q adr ta D A H0 ri0 nL kc ks (pc + 3) ls st h) : dh_OK p l e R s m args below meth c Q adr ta D A H0 ri0 nL kc ks pc ls (.inl y :: .inl x :: st) h := by
  intro rls rst H locs hl hs hR
  obtain ⟨n2, xs, rfl, e2, hs_57⟩ := dh_rs_i hs
  clear hs
  have hs := hs_57
  clear hs_57
  obtain ⟨n1, xs, rfl, e1, hs_58⟩ := dh_rs_i hs
  clear hs
  have hs := hs_58
  clear hs_58
  subst e1 e2
  cases k with
  | eq => exact lv_icmp_eq F.1 F.2.1 hd ht (fun q => hj (by simpa [dh_cnd, dh_cc, Int32.lt_iff_toInt_lt, Int32.le_iff_toInt_le, ← Int32.toInt_inj] using q) _ _ _ _ hl hs hR) (fun q => hn (by simpa [dh_cnd, dh_cc, Int32.lt_iff_toInt_lt, Int32.le_iff_toInt_le, ← Int32.toInt_inj] using q) _ _ _ _ hl hs hR)
  | ne => exact lv_icmp_ne F.1 F.2.1 hd ht (fun q => hj (by simpa [dh_cnd, dh_cc, Int32.lt_iff_toInt_lt, Int32.le_iff_toInt_le, ← Int32.toInt_inj] using q) _ _ _ _ hl hs hR) (fun q => hn (by simpa [dh_cnd, dh_cc, Int32.lt_iff_toInt_lt, Int32.le_iff_toInt_le, ← Int32.toInt_inj] using q) _ _ _ _ hl hs hR)
  | lt => exact lv_icmp_lt F.1 F.2.1 hd ht (fun q => hj (by simpa [dh_cnd, dh_cc, Int32.lt_iff_toInt_lt, Int32.le_iff_toInt_le, ← Int32.toInt_inj] using q) _ _ _ _ hl hs hR) (fun q => hn (by simpa [dh_cnd, dh_cc, Int32.lt_iff_toInt_lt, Int32.le_iff_toInt_le, ← Int32.toInt_inj] using q) _ _ _ _ hl hs hR)
  | ge => exact lv_icmp_ge F.1 F.2.1 hd ht (fun q => hj (by simpa [dh_cnd, dh_cc, Int32.lt_iff_toInt_lt, Int32.le_iff_toInt_le, ← Int32.toInt_inj] using q) _ _ _ _ hl hs hR) (fun q => hn (by simpa [dh_cnd, dh_cc, Int32.lt_iff_toInt_lt, Int32.le_iff_toInt_le, ← Int32.toInt_inj] using q) _ _ _ _ hl hs hR)
  | gt => exact lv_icmp_gt F.1 F.2.1 hd ht (fun q => hj (by simpa [dh_cnd, dh_cc, Int32.lt_iff_toInt_lt, Int32.le_iff_toInt_le, ← Int32.toInt_inj] using q) _ _ _ _ hl hs hR) (fun q => hn (by simpa [dh_cnd, dh_cc, Int32.lt_iff_toInt_lt, Int32.le_iff_toInt_le, ← Int32.toInt_inj] using q) _ _ _ _ hl hs hR)
  | le => exact lv_icmp_le F.1 F.2.1 hd ht (fun q => hj (by simpa [dh_cnd, dh_cc, Int32.lt_iff_toInt_lt, Int32.le_iff_toInt_le, ← Int32.toInt_inj] using q) _ _ _ _ hl hs hR) (fun q => hn (by simpa [dh_cnd, dh_cc, Int32.lt_iff_toInt_lt, Int32.le_iff_toInt_le, ← Int32.toInt_inj] using q) _ _ _ _ hl hs hR)
theorem dh_s_ifc (F : dh_Fx p s m args c cc nL own D ta A adr H0 ri0 sh) {pc t : Nat} {ls : dh_LS} {st : List dh_V} {h : dh_AH} {x off : Int} {k : ClassFile.Cond} (hd : decode cc pc = .ok (.ifCond k off, 3)) (ht : (pc : Int) + off = (t : Int)) (hj : dh_cnd (dh_cc k) x 0 = true → dh_OK p l e R s m args below meth c Q adr ta D A H0 ri0 nL kc ks t ls st h) (hn : dh_cnd (dh_cc k) x 0 = false → dh_OK p l e R s m args below meth c Q adr ta D A H0 ri0 nL kc ks (pc + 3) ls st h) : dh_OK p l e R s m args below meth c Q adr ta D A H0 ri0 nL kc ks pc ls (.inl x :: st) h := by
  intro rls rst H locs hl hs hR
  obtain ⟨n1, xs, rfl, e1, hs_59⟩ := dh_rs_i hs
  clear hs
  have hs := hs_59
  clear hs_59
  subst e1
  cases k with
  | eq => exact lv_if_eq F.1 F.2.1 hd ht (fun q => hj (by simpa [dh_cnd, dh_cc, Int32.lt_iff_toInt_lt, Int32.le_iff_toInt_le, ← Int32.toInt_inj] using q) _ _ _ _ hl hs hR) (fun q => hn (by simpa [dh_cnd, dh_cc, Int32.lt_iff_toInt_lt, Int32.le_iff_toInt_le, ← Int32.toInt_inj] using q) _ _ _ _ hl hs hR)
  | ne => exact lv_if_ne F.1 F.2.1 hd ht (fun q => hj (by simpa [dh_cnd, dh_cc, Int32.lt_iff_toInt_lt, Int32.le_iff_toInt_le, ← Int32.toInt_inj] using q) _ _ _ _ hl hs hR) (fun q => hn (by simpa [dh_cnd, dh_cc, Int32.lt_iff_toInt_lt, Int32.le_iff_toInt_le, ← Int32.toInt_inj] using q) _ _ _ _ hl hs hR)
  | lt => exact lv_if_lt F.1 F.2.1 hd ht (fun q => hj (by simpa [dh_cnd, dh_cc, Int32.lt_iff_toInt_lt, Int32.le_iff_toInt_le, ← Int32.toInt_inj] using q) _ _ _ _ hl hs hR) (fun q => hn (by simpa [dh_cnd, dh_cc, Int32.lt_iff_toInt_lt, Int32.le_iff_toInt_le, ← Int32.toInt_inj] using q) _ _ _ _ hl hs hR)
  | ge => exact lv_if_ge F.1 F.2.1 hd ht (fun q => hj (by simpa [dh_cnd, dh_cc, Int32.lt_iff_toInt_lt, Int32.le_iff_toInt_le, ← Int32.toInt_inj] using q) _ _ _ _ hl hs hR) (fun q => hn (by simpa [dh_cnd, dh_cc, Int32.lt_iff_toInt_lt, Int32.le_iff_toInt_le, ← Int32.toInt_inj] using q) _ _ _ _ hl hs hR)
  | gt => exact lv_if_gt F.1 F.2.1 hd ht (fun q => hj (by simpa [dh_cnd, dh_cc, Int32.lt_iff_toInt_lt, Int32.le_iff_toInt_le, ← Int32.toInt_inj] using q) _ _ _ _ hl hs hR) (fun q => hn (by simpa [dh_cnd, dh_cc, Int32.lt_iff_toInt_lt, Int32.le_iff_toInt_le, ← Int32.toInt_inj] using q) _ _ _ _ hl hs hR)
  | le => exact lv_if_le F.1 F.2.1 hd ht (fun q => hj (by simpa [dh_cnd, dh_cc, Int32.lt_iff_toInt_lt, Int32.le_iff_toInt_le, ← Int32.toInt_inj] using q) _ _ _ _ hl hs hR) (fun q => hn (by simpa [dh_cnd, dh_cc, Int32.lt_iff_toInt_lt, Int32.le_iff_toInt_le, ← Int32.toInt_inj] using q) _ _ _ _ hl hs hR)
theorem dh_s_goto (F : dh_Fx p s m args c cc nL own D ta A adr H0 ri0 sh) {pc t : Nat} {ls : dh_LS} {st : List dh_V} {h : dh_AH} {off : Int} (hd : decode cc pc = .ok (.goto off, 3)) (ht : (pc : Int) + off = (t : Int)) (hj : dh_OK p l e R s m args below meth c Q adr ta D A H0 ri0 nL kc ks t ls st h) : dh_OK p l e R s m args below meth c Q adr ta D A H0 ri0 nL kc ks pc ls st h := by
  intro rls rst H locs hl hs hR
  exact lv_goto F.1 F.2.1 hd ht (hj _ _ _ _ hl hs hR)
theorem dh_s_ifnull (F : dh_Fx p s m args c cc nL own D ta A adr H0 ri0 sh) {pc t : Nat} {ls : dh_LS} {st : List dh_V} {h : dh_AH} {off : Int} (hd : decode cc pc = .ok (.ifnull off, 3)) (ht : (pc : Int) + off = (t : Int)) (hj : dh_OK p l e R s m args below meth c Q adr ta D A H0 ri0 nL kc ks t ls st h) : dh_OK p l e R s m args below meth c Q adr ta D A H0 ri0 nL kc ks pc ls (.inr (.inr none) :: st) h := by
  intro rls rst H locs hl hs hR
  obtain ⟨xs, rfl, hs_60⟩ := dh_rs_n hs
  clear hs
  have hs := hs_60
  clear hs_60
  exact lv_ifnullN F.1 F.2.1 hd ht (hj _ _ _ _ hl hs hR)
theorem dh_s_ifnullR (F : dh_Fx p s m args c cc nL own D ta A adr H0 ri0 sh) {pc : Nat} {ls : dh_LS} {st : List dh_V} {h : dh_AH} {off : Int} {q : Nat} (hd : decode cc pc = .ok (.ifnull off, 3)) (hk : dh_OK p l e R s m args below meth c Q adr ta D A H0 ri0 nL kc ks (pc + 3) ls (st) h) : dh_OK p l e R s m args below meth c Q adr ta D A H0 ri0 nL kc ks pc ls (.inr (.inr (some q)) :: st) h := by
  intro rls rst H locs hl hs hR
  obtain ⟨xs, rfl, hs_61⟩ := dh_rs_r hs
  clear hs
  have hs := hs_61
  clear hs_61
  exact lv_ifnull F.1 F.2.1 hd (hk _ _ _ _ hl hs hR)
theorem dh_s_ifnonnull (F : dh_Fx p s m args c cc nL own D ta A adr H0 ri0 sh) {pc t q : Nat} {ls : dh_LS} {st : List dh_V} {h : dh_AH} {off : Int} (hd : decode cc pc = .ok (.ifnonnull off, 3)) (ht : (pc : Int) + off = (t : Int)) (hj : dh_OK p l e R s m args below meth c Q adr ta D A H0 ri0 nL kc ks t ls st h) : dh_OK p l e R s m args below meth c Q adr ta D A H0 ri0 nL kc ks pc ls (.inr (.inr (some q)) :: st) h := by
  intro rls rst H locs hl hs hR
  obtain ⟨xs, rfl, hs_62⟩ := dh_rs_r hs
  clear hs
  have hs := hs_62
  clear hs_62
  exact lv_ifnonnull F.1 F.2.1 hd ht (hj _ _ _ _ hl hs hR)
theorem dh_s_ifnonnullN (F : dh_Fx p s m args c cc nL own D ta A adr H0 ri0 sh) {pc : Nat} {ls : dh_LS} {st : List dh_V} {h : dh_AH} {off : Int} (hd : decode cc pc = .ok (.ifnonnull off, 3)) (hk : dh_OK p l e R s m args below meth c Q adr ta D A H0 ri0 nL kc ks (pc + 3) ls (st) h) : dh_OK p l e R s m args below meth c Q adr ta D A H0 ri0 nL kc ks pc ls (.inr (.inr none) :: st) h := by
  intro rls rst H locs hl hs hR
  obtain ⟨xs, rfl, hs_63⟩ := dh_rs_n hs
  clear hs
  have hs := hs_63
  clear hs_63
  exact lv_ifnonnullN F.1 F.2.1 hd (hk _ _ _ _ hl hs hR)
theorem dh_s_null (F : dh_Fx p s m args c cc nL own D ta A adr H0 ri0 sh) {pc : Nat} {ls : dh_LS} {st : List dh_V} {h : dh_AH}  (hd : decode cc pc = .ok (.aconst_null, 1)) (hk : dh_OK p l e R s m args below meth c Q adr ta D A H0 ri0 nL kc ks (pc + 1) ls (.inr (.inr none) :: st) h) : dh_OK p l e R s m args below meth c Q adr ta D A H0 ri0 nL kc ks pc ls (st) h := by
  intro rls rst H locs hl hs hR
  exact lv_null F.1 F.2.1 hd (hk _ _ _ _ hl ⟨rfl, hs⟩ hR)
end DHS
