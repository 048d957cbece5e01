/-- what the printed tables know of a called method: whether static, how many values it takes -/
def dh_inv (mn : Nat) (st : Bool) : Option dh_RI := match dh_mt[mn]? with
  | some mi => if mi.2.2.2.2.2.1 = st ∧ mi.2.2.2.2.2.2.1 ≠ 12 then some (if st then (33, mn, mi.2.2.2.2.1, 0, []) else (37, mn, mi.2.2.2.2.1 + 1, (mi.2.2.2.2.2.2.1 : Int), [])) else none
  | none => none
def dh_ri (len n : Nat) (r : dh_RI) : Option dh_RI := if len = n then some r else none
def dh_tr (nL rtc own : Nat) (bp : List Nat) (pc : Nat) (i : Instr) (len : Nat) : Option dh_RI :=
  match i with
  | .iload k => dh_ri len 2 (0, k, 0, 0, [])
  | .iload_n k => dh_ri len 1 (0, k.val, 0, 0, [])
  | .lload k => dh_ri len 2 (0, k, 1, 0, [])
  | .lload_n k => dh_ri len 1 (0, k.val, 1, 0, [])
  | .aload k => dh_ri len 2 (0, k, 2, 0, [])
  | .aload_n k => dh_ri len 1 (0, k.val, 2, 0, [])
  | .istore k => if k < nL then dh_ri len 2 (1, k, 0, 0, []) else none
  | .istore_n k => if k.val < nL then dh_ri len 1 (1, k.val, 0, 0, []) else none
  | .astore k => if k < nL then dh_ri len 2 (1, k, 2, 0, []) else none
  | .astore_n k => if k.val < nL then dh_ri len 1 (1, k.val, 2, 0, []) else none
  | .lstore k => if k + 1 < nL then dh_ri len 2 (2, k, 0, 0, []) else none
  | .lstore_n k => if k.val + 1 < nL then dh_ri len 1 (2, k.val, 0, 0, []) else none
  | .iconst n => if -128 ≤ n ∧ n < 128 then dh_ri len 1 (3, 0, 0, n, []) else none
  | .bipush n => if -128 ≤ n ∧ n < 128 then dh_ri len 2 (3, 0, 0, n, []) else none
  | .sipush n => if -32768 ≤ n ∧ n < 32768 then dh_ri len 3 (3, 0, 0, n, []) else none
  | .lconst n => dh_ri len 1 (4, 0, 0, (n.val : Int), [])
  | .ldc idx => match dh_cf own idx with
    | some (_, _, v, _) => dh_ri len 2 (3, 0, 0, v, [])
    | none => none
  | .ldc_w idx => match dh_cf own idx with
    | some (_, _, v, _) => dh_ri len 3 (3, 0, 0, v, [])
    | none => none
  | .ldc2_w idx => match dh_lf own idx with
    | some (_, _, v, _) => dh_ri len 3 (4, 0, 0, v, [])
    | none => none
  | .iadd => dh_ri len 1 (5, 0, 0, 0, [])
  | .isub => dh_ri len 1 (5, 1, 0, 0, [])
  | .imul => dh_ri len 1 (5, 2, 0, 0, [])
  | .idiv => dh_ri len 1 (5, 3, 0, 0, [])
  | .irem => dh_ri len 1 (5, 4, 0, 0, [])
  | .iand => dh_ri len 1 (5, 5, 0, 0, [])
  | .ior => dh_ri len 1 (5, 6, 0, 0, [])
  | .ishl => dh_ri len 1 (5, 7, 0, 0, [])
  | .ishr => dh_ri len 1 (5, 8, 0, 0, [])
  | .iushr => dh_ri len 1 (5, 9, 0, 0, [])
  | .ladd => dh_ri len 1 (6, 0, 0, 0, [])
  | .lsub => dh_ri len 1 (6, 1, 0, 0, [])
  | .lmul => dh_ri len 1 (6, 2, 0, 0, [])
  | .ldiv => dh_ri len 1 (6, 3, 0, 0, [])
  | .lrem => dh_ri len 1 (6, 4, 0, 0, [])
  | .land => dh_ri len 1 (6, 5, 0, 0, [])
  | .lor => dh_ri len 1 (6, 6, 0, 0, [])
  | .lshl => dh_ri len 1 (7, 0, 0, 0, [])
  | .lshr => dh_ri len 1 (7, 1, 0, 0, [])
  | .lushr => dh_ri len 1 (7, 2, 0, 0, [])
  | .i2l => dh_ri len 1 (8, 0, 0, 0, [])
  | .l2i => dh_ri len 1 (9, 0, 0, 0, [])
  | .i2b => dh_ri len 1 (10, 0, 0, 0, [])
  | .lcmp => dh_ri len 1 (11, 0, 0, 0, [])
  | .dup => dh_ri len 1 (12, 0, 0, 0, [])
  | .pop => dh_ri len 1 (13, 0, 0, 0, [])
  | .iinc k n => if k < nL ∧ -32768 ≤ n ∧ n < 32768 then dh_ri len 3 (14, k, 0, n, []) else none
  | .ifCond c off => match dh_tgt bp pc off with
    | some b => dh_ri len 3 (15, dh_cc c, b, 0, [])
    | none => none
  | .if_icmp c off => match dh_tgt bp pc off with
    | some b => dh_ri len 3 (16, dh_cc c, b, 0, [])
    | none => none
  | .ifnull off => match dh_tgt bp pc off with
    | some b => dh_ri len 3 (17, 0, b, 0, [])
    | none => none
  | .ifnonnull off => match dh_tgt bp pc off with
    | some b => dh_ri len 3 (18, 0, b, 0, [])
    | none => none
  | .goto off => match dh_tgt bp pc off with
    | some b => dh_ri len 3 (19, 0, b, 0, [])
    | none => none
  | .ireturn => if rtc = 0 ∨ rtc = 3 then dh_ri len 1 (20, rtc, 0, 0, []) else none
  | .lreturn => if rtc = 1 then dh_ri len 1 (20, 1, 0, 0, []) else none
  | .areturn => if rtc = 2 then dh_ri len 1 (20, 2, 0, 0, []) else none
  | .return_ => if rtc = 4 then dh_ri len 1 (21, 0, 0, 0, []) else none
  | .getfield idx => match dh_ff own idx with
    | some (_, _, ci, k, _) => match (dh_fk ci)[k]? with
      | some (3, off) => dh_ri len 3 (24, ci, k, (off : Int), [])
      | some (0, _) => dh_ri len 3 (22, ci, k, 0, [])
      | some (1, _) => dh_ri len 3 (22, ci, k, 0, [])
      | _ => none
    | none => none
  | .putfield idx => match dh_ff own idx with
    | some (_, _, ci, k, _) => match (dh_fk ci)[k]? with
      | some (0, _) => dh_ri len 3 (25, ci, k, 0, [])
      | some (1, _) => dh_ri len 3 (25, ci, k, 1, [])
      | _ => none
    | none => none
  | .iaload => dh_ri len 1 (27, 1, 0, 0, [])
  | .baload => dh_ri len 1 (27, 0, 0, 0, [])
  | .laload => dh_ri len 1 (28, 0, 0, 0, [])
  | .aaload => dh_ri len 1 (29, 0, 0, 0, [])
  | .iastore => dh_ri len 1 (30, 1, 0, 0, [])
  | .bastore => dh_ri len 1 (30, 0, 0, 0, [])
  | .lastore => dh_ri len 1 (31, 0, 0, 0, [])
  | .arraylength => dh_ri len 1 (32, 0, 0, 0, [])
  | .invokevirtual idx => match dh_mf own idx with
    | some (_, _, mn, _, _) => if len = 3 then dh_inv mn false else none
    | none => none
  | .invokestatic idx => match dh_yf own idx with
    | some _ => dh_ri len 3 (36, 0, 0, 0, [])
    | none => match dh_hf own idx with
    | some (_, _, a, _) => dh_ri len 3 (38, a, 0, 0, [])
    | none => match dh_mf own idx with
      | some (_, _, mn, _, _) => if len = 3 then dh_inv mn true else none
      | none => none
  | .tableswitch d lo hi offs => match dh_tgt bp pc d, dh_prs bp pc (dh_lows lo offs.toList) with
    | some b, some l => if hi = lo + (offs.toList.length : Int) - 1 then some (34, 0, b, 0, l) else none
    | _, _ => none
  | .lookupswitch d ps => match dh_tgt bp pc d, dh_prs bp pc ps.toList with
    | some b, some l => if (ps.toList.zip (ps.toList.drop 1)).all (fun (a, next) => a.1 < next.1) = true then some (34, 0, b, 0, l) else none
    | _, _ => none
  | .aconst_null => dh_ri len 1 (35, 0, 0, 0, [])
  | _ => none
def dh_eql : List (Int × Nat) → List (Int × Nat) → Bool
  | [], [] => true
  | (a, b) :: s, (c, d) :: t => decide (a = c) && (decide (b = d) && dh_eql s t)
  | _, _ => false
theorem dh_eql_eq : ∀ (s t : List (Int × Nat)), dh_eql s t = true → s = t
  | [], [], _ => rfl
  | (a, b) :: s, (c, d) :: t, h => by
    simp only [dh_eql, Bool.and_eq_true, decide_eq_true_eq] at h
    rw [h.1, h.2.1, dh_eql_eq s t h.2.2]
  | [], _ :: _, h => by simp [dh_eql] at h
  | _ :: _, [], h => by simp [dh_eql] at h
def dh_eqr (o : Option dh_RI) (r : dh_RI) : Bool := match o with
  | some q => decide (q.1 = r.1) && (decide (q.2.1 = r.2.1) && (decide (q.2.2.1 = r.2.2.1) && (decide (q.2.2.2.1 = r.2.2.2.1) && dh_eql q.2.2.2.2 r.2.2.2.2)))
  | none => false
theorem dh_eqr_eq {o : Option dh_RI} {r : dh_RI} (h : dh_eqr o r = true) : o = some r := by
  obtain ⟨a, b, c, d, e⟩ := r
  match o, h with
  | some (a', b', c', d', e'), h =>
    simp only [dh_eqr, Bool.and_eq_true, decide_eq_true_eq] at h
    obtain ⟨h1, h2, h3, h4, h5⟩ := h
    rw [h1, h2, h3, h4, dh_eql_eq _ _ h5]
def dh_ckB (cc : ByteArray) (nL rtc own : Nat) (bp : List Nat) : Nat → List dh_RI → Bool
  | _, [] => true
  | pc, r :: rs => if r.1 = 39 then decide (bp[r.2.2.1]? = some pc) else match decode cc pc with
    | .ok (i, len) => dh_eqr (dh_tr nL rtc own bp pc i len) r && dh_ckB cc nL rtc own bp (pc + len) rs
    | .error _ => false
def dh_ckBs (cc : ByteArray) (nL rtc own : Nat) (bp : List Nat) : List Nat → List (List dh_RI) → Bool
  | [], [] => true
  | pc :: ps, b :: bs => dh_ckB cc nL rtc own bp pc b && dh_ckBs cc nL rtc own bp ps bs
  | _, _ => false
def dh_ckM (mn : Nat) : Bool := match dh_mt[mn]? with
  | some mi => dh_ckBs mi.2.1 mi.2.2.1 mi.2.2.2.2.2.2.2.2 mi.2.2.2.2.2.2.1 mi.2.2.2.2.2.2.2.1 mi.2.2.2.2.2.2.2.1 (dh_pt.getD mn [])
  | none => false
