def sg_Numbers : List (Nat × Nat × Nat × Nat) := [(0, 3, 0, 0), (1, 40, 0, 0), (7, 41, 1, 1), (1, 201, 0, 0), (1, 201, 0, 0), (1, 201, 0, 0), (1, 201, 0, 0), (1, 201, 0, 0), (1, 201, 0, 0), (1, 201, 0, 0), (1, 201, 0, 0), (1, 201, 0, 0), (1, 201, 0, 0), (1, 201, 0, 0), (1, 201, 0, 0), (1, 201, 0, 0), (1, 201, 0, 0), (1, 201, 0, 0), (1, 201, 0, 0), (1, 201, 0, 0), (1, 201, 0, 0), (1, 201, 0, 0), (1, 201, 0, 0), (1, 201, 0, 0), (1, 201, 0, 0), (1, 201, 0, 0), (1, 201, 0, 0), (1, 201, 0, 0), (1, 201, 0, 0), (1, 201, 0, 0), (1, 201, 0, 0), (1, 201, 0, 0), (1, 201, 0, 0), (1, 201, 0, 0), (1, 201, 0, 0), (1, 201, 0, 0), (1, 201, 0, 0), (1, 201, 0, 0), (1, 201, 0, 0), (1, 201, 0, 0), (1, 201, 0, 0), (1, 201, 0, 0), (1, 201, 0, 0), (1, 201, 0, 0), (2, 25, 0, 0), (2, 41, 0, 0)]
def yi_Numbers : MethodName := ⟨"DoubleHeap$Numbers", "<init>", "()V"⟩
set_option maxRecDepth 100000 in
theorem cwi_Numbers : Cond.code yi_Numbers prog_5_method_1_code 1 none ∈ dh_B := dh_B_at 330 rfl rfl
theorem gwi_Numbers : GoodIn dh_B (Cond.code yi_Numbers prog_5_method_1_code 1 none :: dh_B) := fun w hw => (List.mem_cons.mp hw).elim (fun e => e ▸ dh_goodIn _ cwi_Numbers) (fun h => dh_goodIn _ h)
theorem di_Numbers_0 : decode prog_5_method_1_code 0 = .ok (.aload_n 0, 1) := by decide +kernel
theorem di_Numbers_1 : decode prog_5_method_1_code 1 = .ok (.invokespecial 3, 3) := by decide +kernel
theorem di_Numbers_4 : decode prog_5_method_1_code 4 = .ok (.aload_n 0, 1) := by decide +kernel
theorem di_Numbers_5 : decode prog_5_method_1_code 5 = .ok (.bipush 40, 2) := by decide +kernel
theorem di_Numbers_7 : decode prog_5_method_1_code 7 = .ok (.newarray .int, 2) := by decide +kernel
theorem di_Numbers_9 : decode prog_5_method_1_code 9 = .ok (.putfield 9, 3) := by decide +kernel
theorem di_Numbers_12 : decode prog_5_method_1_code 12 = .ok (.aload_n 0, 1) := by decide +kernel
theorem di_Numbers_13 : decode prog_5_method_1_code 13 = .ok (.iconst 0, 1) := by decide +kernel
theorem di_Numbers_14 : decode prog_5_method_1_code 14 = .ok (.putfield 15, 3) := by decide +kernel
theorem di_Numbers_17 : decode prog_5_method_1_code 17 = .ok (.aload_n 0, 1) := by decide +kernel
theorem di_Numbers_18 : decode prog_5_method_1_code 18 = .ok (.bipush 41, 2) := by decide +kernel
theorem di_Numbers_20 : decode prog_5_method_1_code 20 = .ok (.sipush 201, 3) := by decide +kernel
theorem di_Numbers_23 : decode prog_5_method_1_code 23 = .ok (.multianewarray 19 2, 4) := by decide +kernel
theorem di_Numbers_27 : decode prog_5_method_1_code 27 = .ok (.putfield 21, 3) := by decide +kernel
theorem di_Numbers_30 : decode prog_5_method_1_code 30 = .ok (.aload_n 0, 1) := by decide +kernel
theorem di_Numbers_31 : decode prog_5_method_1_code 31 = .ok (.bipush 25, 2) := by decide +kernel
theorem di_Numbers_33 : decode prog_5_method_1_code 33 = .ok (.newarray .long, 2) := by decide +kernel
theorem di_Numbers_35 : decode prog_5_method_1_code 35 = .ok (.putfield 24, 3) := by decide +kernel
theorem di_Numbers_38 : decode prog_5_method_1_code 38 = .ok (.aload_n 0, 1) := by decide +kernel
theorem di_Numbers_39 : decode prog_5_method_1_code 39 = .ok (.bipush 41, 2) := by decide +kernel
theorem di_Numbers_41 : decode prog_5_method_1_code 41 = .ok (.newarray .long, 2) := by decide +kernel
theorem di_Numbers_43 : decode prog_5_method_1_code 43 = .ok (.putfield 28, 3) := by decide +kernel
theorem di_Numbers_46 : decode prog_5_method_1_code 46 = .ok (.return_, 1) := by decide +kernel
set_option maxHeartbeats 8000000 in
set_option maxRecDepth 100000 in
theorem k_Numbers (l : Launch) (D : va_G) (ta : Nat → ClassId) (h0 sz : Nat) : Met l yi_Numbers (Cond.code yi_Numbers prog_5_method_1_code 1 none :: dh_B) ({ frames := 1, cells := 45, slots := 8388, locals := 40 }) (dh_Pi D ta [.ref h0] [(h0, .inr (3, [.null, .int 0, .null, .null, .null]))] sz) (va_Qv (fun u : List Nat => u.length = 45) (fun u t => va_P D vwCl (dh_sg ta sg_Numbers dh_z (h0 :: u)) t.heap ∧ va_D (va_A [(h0, .inr (3, [.null, .int 0, .null, .null, .null]))] sz) (dh_sg ta sg_Numbers dh_z (h0 :: u))) (va_A [(h0, .inr (3, [.null, .int 0, .null, .null, .null]))] sz)) 45 8388 (va_A [(h0, .inr (3, [.null, .int 0, .null, .null, .null]))] sz) := by
  refine Met.ofW (cc := prog_5_method_1_code) (maxL := 1) (ret := none) (by decide) rfl ?_
  intro p e s m args below meth c s₁ B hml hv
  obtain ⟨rfl, hsz, hP, hK, hD0, hN, hO⟩ := hv
  have hx := B.exec
  have hb := B.bytes
  have hr := B.returns
  have hts0 := atoms_spec (ws := Cond.code yi_Numbers prog_5_method_1_code 1 none :: dh_B) B.pre
  have hts : ∀ w ∈ dh_B, w.before #[Value.ref h0] s = true := fun w hw => hts0 w (List.mem_cons_of_mem _ hw)
  have hown : s.vm.findClass RX3 = some m.cls := findClass_of_methodNamed B.named
  have hlocks := B.notSynchronized
  have hin : meth.name = "<init>" := (name_of_methodNamed B.named B.method).1
  subst hsz
  have hD := hD0.self (sz := s.heap.size)
  generalize hAe : va_A [(h0, .inr (3, [.null, .int 0, .null, .null, .null]))] s.heap.size = A at hD ⊢
  have hA : ∀ q : Nat, s.heap.size ≤ q → A q := fun q h => by rw [← hAe]; exact Or.inr h
  have hS : va_S A s.heap s.heap [] := va_S.rf
  have hl := lv_entry ([.ref h0]) (n := 1) (Nat.le_of_ble_eq_true rfl)
  rw [lg_entry_eq]
  generalize (lg_sl ([.ref h0]) ++ List.replicate (1 - (lg_sl ([.ref h0])).length) Slot.unset).toArray = ls at hl ⊢
  have hl : lv_has ls 1 [(0, .ref h0)] := hl
  refine lv_aload_n hx hb di_Numbers_0 rfl (lv_at hl 0 rfl) ?_
  refine W.objInit hx hb hown (hts (.methodLink RX3 3 Lib.objectInit) (dh_has_in (i := 331) (by decide +kernel))) (hts _ dh_w_oi) (hts _ dh_w_oc) rfl (by rw [hml]; exact hl.1) rfl di_Numbers_1 (Nat.le_of_ble_eq_true rfl) (Nat.le_of_ble_eq_true rfl) ?_
  refine W.eq (g2 := F0 m 4 ls []) rfl ?_
  refine lv_aload_n hx hb di_Numbers_4 rfl (lv_at hl 0 rfl) ?_
  refine lv_bipush (v := 40) hx hb di_Numbers_5 (by decide) ?_
  refine va_newa (atype := .int) (a0 := (40, .inl (fun _ => 0))) hx hb (hts _ dh_w_aI) rfl hK hP hD hS hA (fun _ => rfl) (by decide) (by decide) (by decide) (Nat.le_of_ble_eq_true rfl) (Nat.le_of_ble_eq_true rfl) di_Numbers_7 (fun q1 cA H hK1 hP hD hS => ?_)
  obtain rfl := dh_ta1 hK1
  clear hK1
  refine va_putF (D := D) (ci := 3) (v := .ref q1) (ty := .array .int) (C := RX3) (T := TX3) (N := 5) hx hb hts dh_u3 tyX3 tyX3_ok nmX3 hown hK hP hD hS 0 rfl rfl 0 (by decide) (hts (.fieldLink RX3 9 RX3 "row" "[I") (dh_has_in (i := 334) (by decide +kernel))) (fun _ h9 => h9) rfl hin rfl (by decide +kernel) rfl rfl (Nat.le_of_ble_eq_true rfl) di_Numbers_9 (fun H locs hP hD hS => ?_)
  refine lv_aload_n hx hb di_Numbers_12 rfl (lv_at hl 0 rfl) ?_
  refine lv_iconst (v := 0) hx hb di_Numbers_13 (by decide) ?_
  refine va_put (D := D) (ci := 3) (v := .int 0) (ty := .int) (C := RX3) (T := TX3) (N := 5) hx hb hts dh_u3 tyX3 tyX3_ok nmX3 hown hK hP hD hS 0 rfl rfl 1 (by decide) (hts (.fieldLink RX3 15 RX3 "size" "I") (dh_has_in (i := 335) (by decide +kernel))) (fun _ h9 => h9) rfl (by decide +kernel) rfl rfl (Nat.le_of_ble_eq_true rfl) di_Numbers_14 (fun H locs hP hD hS => ?_)
  refine lv_aload_n hx hb di_Numbers_17 rfl (lv_at hl 0 rfl) ?_
  refine lv_bipush (v := 41) hx hb di_Numbers_18 (by decide) ?_
  refine lv_sipush (v := 201) hx hb di_Numbers_20 (by decide) ?_
  refine va_mna (X := _) (L := []) (f := fun _ => .inl (0, 0, .inl (fun _ => 0))) (ty := .int) (cy := ta 1) (z := (201, .inl (fun _ => 0))) hx hb hown (hts (.classLink RX3 19 ("[" ++ (FieldType.array .int).toString)) (dh_has_in (i := 332) (by decide +kernel))) hO.2.2 (hts _ dh_w_aI) (hK.2 0 _ rfl).2 hK (by rw [show va_pl [] (fun _ => (.inl (0, 0, .inl (fun _ => 0)) : va_E)) = [] from rfl, List.append_nil]; exact hP) (by rw [show va_pl [] (fun _ => (.inl (0, 0, .inl (fun _ => 0)) : va_E)) = [] from rfl, List.append_nil]; exact hD) hS hA (n := 41) (k := 201) (N' := 41) (K' := 201) (by decide) (by decide) (by decide) (by decide) (by decide) (by decide) (by decide) rfl rfl (Nat.le_of_ble_eq_true rfl) (Nat.le_of_ble_eq_true rfl) (fun c => by first | rfl | (rw [vp_cell_i]; exact arrV_new _ _ _)) di_Numbers_23 (fun q2 r cA H hr1 hr2 hK1 hP hD hS => ?_)
  obtain rfl := dh_ta7 hK1
  clear hK1
  clear hr1 hr2
  rw [dh_plup] at hP hD
  skip
  refine va_putF (D := D) (ci := 3) (v := .ref q2) (ty := .array (.array .int)) (C := RX3) (T := TX3) (N := 5) hx hb hts dh_u3 tyX3 tyX3_ok nmX3 hown hK hP hD hS 0 rfl rfl 2 (by decide) (hts (.fieldLink RX3 21 RX3 "ways" "[[I") (dh_has_in (i := 337) (by decide +kernel))) (fun _ h9 => h9) rfl hin rfl (by decide +kernel) rfl rfl (Nat.le_of_ble_eq_true rfl) di_Numbers_27 (fun H locs hP hD hS => ?_)
  refine lv_aload_n hx hb di_Numbers_30 rfl (lv_at hl 0 rfl) ?_
  refine lv_bipush (v := 25) hx hb di_Numbers_31 (by decide) ?_
  refine va_newa (atype := .long) (a0 := (25, .inr (.inl (fun _ => 0)))) hx hb (hts _ dh_w_aJ) rfl hK hP hD hS hA (fun _ => rfl) (by decide) (by decide) (by decide) (Nat.le_of_ble_eq_true rfl) (Nat.le_of_ble_eq_true rfl) di_Numbers_33 (fun q3 cA H hK1 hP hD hS => ?_)
  obtain rfl := dh_ta2 hK1
  clear hK1
  refine va_putF (D := D) (ci := 3) (v := .ref q3) (ty := .array .long) (C := RX3) (T := TX3) (N := 5) hx hb hts dh_u3 tyX3 tyX3_ok nmX3 hown hK hP hD hS 0 rfl rfl 3 (by decide) (hts (.fieldLink RX3 24 RX3 "simples" "[J") (dh_has_in (i := 338) (by decide +kernel))) (fun _ h9 => h9) rfl hin rfl (by decide +kernel) rfl rfl (Nat.le_of_ble_eq_true rfl) di_Numbers_35 (fun H locs hP hD hS => ?_)
  refine lv_aload_n hx hb di_Numbers_38 rfl (lv_at hl 0 rfl) ?_
  refine lv_bipush (v := 41) hx hb di_Numbers_39 (by decide) ?_
  refine va_newa (atype := .long) (a0 := (41, .inr (.inl (fun _ => 0)))) hx hb (hts _ dh_w_aJ) rfl hK hP hD hS hA (fun _ => rfl) (by decide) (by decide) (by decide) (Nat.le_of_ble_eq_true rfl) (Nat.le_of_ble_eq_true rfl) di_Numbers_41 (fun q4 cA H hK1 hP hD hS => ?_)
  obtain rfl := dh_ta2 hK1
  clear hK1
  refine va_putF (D := D) (ci := 3) (v := .ref q4) (ty := .array .long) (C := RX3) (T := TX3) (N := 5) hx hb hts dh_u3 tyX3 tyX3_ok nmX3 hown hK hP hD hS 0 rfl rfl 4 (by decide) (hts (.fieldLink RX3 28 RX3 "losing" "[J") (dh_has_in (i := 339) (by decide +kernel))) (fun _ h9 => h9) rfl hin rfl (by decide +kernel) rfl rfl (Nat.le_of_ble_eq_true rfl) di_Numbers_43 (fun H locs hP hD hS => ?_)
  have eF : (fun i => if i < 41 then some (r i) else none) = (fun j => if j < 41 then some ((h0 :: [q1, q2, r 0, r 1, r 2, r 3, r 4, r 5, r 6, r 7, r 8, r 9, r 10, r 11, r 12, r 13, r 14, r 15, r 16, r 17, r 18, r 19, r 20, r 21, r 22, r 23, r 24, r 25, r 26, r 27, r 28, r 29, r 30, r 31, r 32, r 33, r 34, r 35, r 36, r 37, r 38, r 39, r 40, q3, q4]).getD (2 + 1 + j * 1) 0) else none) := by
    refine dh_fe (fun j hj => ?_)
    match j, hj with
    | 0, _ => rfl
    | 1, _ => rfl
    | 2, _ => rfl
    | 3, _ => rfl
    | 4, _ => rfl
    | 5, _ => rfl
    | 6, _ => rfl
    | 7, _ => rfl
    | 8, _ => rfl
    | 9, _ => rfl
    | 10, _ => rfl
    | 11, _ => rfl
    | 12, _ => rfl
    | 13, _ => rfl
    | 14, _ => rfl
    | 15, _ => rfl
    | 16, _ => rfl
    | 17, _ => rfl
    | 18, _ => rfl
    | 19, _ => rfl
    | 20, _ => rfl
    | 21, _ => rfl
    | 22, _ => rfl
    | 23, _ => rfl
    | 24, _ => rfl
    | 25, _ => rfl
    | 26, _ => rfl
    | 27, _ => rfl
    | 28, _ => rfl
    | 29, _ => rfl
    | 30, _ => rfl
    | 31, _ => rfl
    | 32, _ => rfl
    | 33, _ => rfl
    | 34, _ => rfl
    | 35, _ => rfl
    | 36, _ => rfl
    | 37, _ => rfl
    | 38, _ => rfl
    | 39, _ => rfl
    | 40, _ => rfl
    | k + 41, hj => exact absurd hj (by omega)
  rw [eF] at hP hD
  have hP9 : va_P D vwCl (dh_sg ta sg_Numbers dh_z (h0 :: [q1, q2, r 0, r 1, r 2, r 3, r 4, r 5, r 6, r 7, r 8, r 9, r 10, r 11, r 12, r 13, r 14, r 15, r 16, r 17, r 18, r 19, r 20, r 21, r 22, r 23, r 24, r 25, r 26, r 27, r 28, r 29, r 30, r 31, r 32, r 33, r 34, r 35, r 36, r 37, r 38, r 39, r 40, q3, q4])) H := hP
  have hD9 : va_D A (dh_sg ta sg_Numbers dh_z (h0 :: [q1, q2, r 0, r 1, r 2, r 3, r 4, r 5, r 6, r 7, r 8, r 9, r 10, r 11, r 12, r 13, r 14, r 15, r 16, r 17, r 18, r 19, r 20, r 21, r 22, r 23, r 24, r 25, r 26, r 27, r 28, r 29, r 30, r 31, r 32, r 33, r 34, r 35, r 36, r 37, r 38, r 39, r 40, q3, q4])) := hD
  refine W.widen (k := 45) (n := 8388) (Nat.le_of_ble_eq_true rfl) (Nat.le_of_ble_eq_true rfl) ?_
  exact W.vret hx hb hr (fun t ht hW => ⟨⟨[q1, q2, r 0, r 1, r 2, r 3, r 4, r 5, r 6, r 7, r 8, r 9, r 10, r 11, r 12, r 13, r 14, r 15, r 16, r 17, r 18, r 19, r 20, r 21, r 22, r 23, r 24, r 25, r 26, r 27, r 28, r 29, r 30, r 31, r 32, r 33, r 34, r 35, r 36, r 37, r 38, r 39, r 40, q3, q4], rfl, rfl, by rw [ht]; exact hP9, hD9⟩, hS.F ht⟩) hS.2.2 di_Numbers_46
def sg_Law : List (Nat × Nat × Nat × Nat) := [(0, 1, 0, 0), (0, 5, 0, 0), (1, 160, 0, 0), (1, 160, 0, 0), (1, 8, 0, 0), (1, 8, 0, 0), (1, 8, 0, 0), (1, 24, 0, 0), (2, 1681, 0, 0), (2, 41, 0, 0)]
def yi_Law : MethodName := ⟨"DoubleHeap$Law", "<init>", "()V"⟩
set_option maxRecDepth 100000 in
theorem cwi_Law : Cond.code yi_Law prog_3_method_1_code 1 none ∈ dh_B := dh_B_at 395 rfl rfl
theorem gwi_Law : GoodIn dh_B (Cond.code yi_Law prog_3_method_1_code 1 none :: dh_B) := fun w hw => (List.mem_cons.mp hw).elim (fun e => e ▸ dh_goodIn _ cwi_Law) (fun h => dh_goodIn _ h)
theorem di_Law_0 : decode prog_3_method_1_code 0 = .ok (.aload_n 0, 1) := by decide +kernel
theorem di_Law_1 : decode prog_3_method_1_code 1 = .ok (.invokespecial 3, 3) := by decide +kernel
theorem di_Law_4 : decode prog_3_method_1_code 4 = .ok (.aload_n 0, 1) := by decide +kernel
theorem di_Law_5 : decode prog_3_method_1_code 5 = .ok (.new 9, 3) := by decide +kernel
theorem di_Law_8 : decode prog_3_method_1_code 8 = .ok (.dup, 1) := by decide +kernel
theorem di_Law_9 : decode prog_3_method_1_code 9 = .ok (.invokespecial 11, 3) := by decide +kernel
theorem di_Law_12 : decode prog_3_method_1_code 12 = .ok (.putfield 12, 3) := by decide +kernel
theorem di_Law_15 : decode prog_3_method_1_code 15 = .ok (.aload_n 0, 1) := by decide +kernel
theorem di_Law_16 : decode prog_3_method_1_code 16 = .ok (.iconst 0, 1) := by decide +kernel
theorem di_Law_17 : decode prog_3_method_1_code 17 = .ok (.putfield 18, 3) := by decide +kernel
theorem di_Law_20 : decode prog_3_method_1_code 20 = .ok (.aload_n 0, 1) := by decide +kernel
theorem di_Law_21 : decode prog_3_method_1_code 21 = .ok (.sipush 1681, 3) := by decide +kernel
theorem di_Law_24 : decode prog_3_method_1_code 24 = .ok (.newarray .long, 2) := by decide +kernel
theorem di_Law_26 : decode prog_3_method_1_code 26 = .ok (.putfield 22, 3) := by decide +kernel
theorem di_Law_29 : decode prog_3_method_1_code 29 = .ok (.aload_n 0, 1) := by decide +kernel
theorem di_Law_30 : decode prog_3_method_1_code 30 = .ok (.bipush 41, 2) := by decide +kernel
theorem di_Law_32 : decode prog_3_method_1_code 32 = .ok (.newarray .long, 2) := by decide +kernel
theorem di_Law_34 : decode prog_3_method_1_code 34 = .ok (.putfield 26, 3) := by decide +kernel
theorem di_Law_37 : decode prog_3_method_1_code 37 = .ok (.aload_n 0, 1) := by decide +kernel
theorem di_Law_38 : decode prog_3_method_1_code 38 = .ok (.iconst 0, 1) := by decide +kernel
theorem di_Law_39 : decode prog_3_method_1_code 39 = .ok (.putfield 29, 3) := by decide +kernel
theorem di_Law_42 : decode prog_3_method_1_code 42 = .ok (.return_, 1) := by decide +kernel
set_option maxHeartbeats 8000000 in
set_option maxRecDepth 100000 in
theorem k_Law (l : Launch) (D : va_G) (ta : Nat → ClassId) (h0 sz : Nat) : Met l yi_Law (Cond.code yi_Law prog_3_method_1_code 1 none :: dh_B) ({ frames := 2, cells := 9, slots := 2100, locals := 100 }) (dh_Pi D ta [.ref h0] [(h0, .inr (1, [.null, .int 0, .null, .null, .int 0]))] sz) (va_Qv (fun u : List Nat => u.length = 9) (fun u t => va_P D vwCl (dh_sg ta sg_Law dh_z (h0 :: u)) t.heap ∧ va_D (va_A [(h0, .inr (1, [.null, .int 0, .null, .null, .int 0]))] sz) (dh_sg ta sg_Law dh_z (h0 :: u))) (va_A [(h0, .inr (1, [.null, .int 0, .null, .null, .int 0]))] sz)) 9 2100 (va_A [(h0, .inr (1, [.null, .int 0, .null, .null, .int 0]))] sz) := by
  refine Met.ofW (cc := prog_3_method_1_code) (maxL := 1) (ret := none) (by decide) rfl ?_
  intro p e s m args below meth c s₁ B hml hv
  obtain ⟨rfl, hsz, hP, hK, hD0, hN, hO⟩ := hv
  have hx := B.exec
  have hb := B.bytes
  have hr := B.returns
  have hts0 := atoms_spec (ws := Cond.code yi_Law prog_3_method_1_code 1 none :: dh_B) B.pre
  have hts : ∀ w ∈ dh_B, w.before #[Value.ref h0] s = true := fun w hw => hts0 w (List.mem_cons_of_mem _ hw)
  have hown : s.vm.findClass RX1 = some m.cls := findClass_of_methodNamed B.named
  have hlocks := B.notSynchronized
  have hin : meth.name = "<init>" := (name_of_methodNamed B.named B.method).1
  subst hsz
  have hD := hD0.self (sz := s.heap.size)
  generalize hAe : va_A [(h0, .inr (1, [.null, .int 0, .null, .null, .int 0]))] s.heap.size = A at hD ⊢
  have hA : ∀ q : Nat, s.heap.size ≤ q → A q := fun q h => by rw [← hAe]; exact Or.inr h
  have hS : va_S A s.heap s.heap [] := va_S.rf
  have hl := lv_entry ([.ref h0]) (n := 1) (Nat.le_of_ble_eq_true rfl)
  rw [lg_entry_eq]
  generalize (lg_sl ([.ref h0]) ++ List.replicate (1 - (lg_sl ([.ref h0])).length) Slot.unset).toArray = ls at hl ⊢
  have hl : lv_has ls 1 [(0, .ref h0)] := hl
  refine lv_aload_n hx hb di_Law_0 rfl (lv_at hl 0 rfl) ?_
  refine W.objInit hx hb hown (hts (.methodLink RX1 3 Lib.objectInit) (dh_has_in (i := 396) (by decide +kernel))) (hts _ dh_w_oi) (hts _ dh_w_oc) rfl (by rw [hml]; exact hl.1) rfl di_Law_1 (Nat.le_of_ble_eq_true rfl) (Nat.le_of_ble_eq_true rfl) ?_
  refine W.eq (g2 := F0 m 4 ls []) rfl ?_
  refine lv_aload_n hx hb di_Law_4 rfl (lv_at hl 0 rfl) ?_
  refine va_new (ci := 5) (fs := [.null, .null, .int 0, .null, .null, .null, .int 0, .null, .int 0, .int 0]) (C := RX5) (T := TX5) (N := 10) hx hb hts dh_u5 tyX5 tyX5_ok hown (hts (.classLink RX1 9 RX5) (dh_has_in (i := 397) (by decide +kernel))) (hts (.instantiable RX5 10) (dh_has_in (i := 201) (by decide +kernel))) (hts (.initialized RX5) (dh_has_in (i := 154) (by decide +kernel))) hK hP hD hS hA rfl (by decide +kernel) (Nat.le_of_ble_eq_true rfl) (Nat.le_of_ble_eq_true rfl) di_Law_5 (fun q1 H hP hD hS => ?_)
  refine lv_dup hx hb di_Law_8 rfl ?_
  have hPc : va_P D vwCl [(q1, .inr (5, [.null, .null, .int 0, .null, .null, .null, .int 0, .null, .int 0, .int 0]))] H := dh_Pr hP
  have hDc : va_D A [(q1, .inr (5, [.null, .null, .int 0, .null, .null, .null, .int 0, .null, .int 0, .int 0]))] := dh_Dr hD
  have hFc := dh_Fr (wc := [(q1, .inr (5, [.null, .null, .int 0, .null, .null, .null, .int 0, .null, .int 0, .int 0]))]) hD hS hA
  refine va_callv (va_runIN (As := []) (rest := [.ref q1, .ref h0]) ⟨hx, hb, hml, hown, hts⟩ (k_Rules l D ta q1 H.size) ⟨va_cnB (host := "DoubleHeap") 0 hts gwi_Rules rfl rfl rfl (hN _ (dh_hasN_in (i := 398) (by decide +kernel) rfl)) (hts (.initialized RX5) (dh_has_in (i := 154) (by decide +kernel))) (by decide +kernel) ⟨Nat.le_of_ble_eq_true rfl, Nat.le_of_ble_eq_true rfl⟩, rfl, hts (.instanceMethod yi_Rules) (dh_has_in (i := 203) (by decide +kernel))⟩ ⟨dh_Pi_blind, fun U hU hW => ⟨rfl, by rw [hU], by rw [hU]; exact hPc, va_K.moved hW.alike hK, hDc.weaken (fun _ _ _ _ => trivial), hN.warm hW, hO.moved hW.alike⟩⟩ rfl rfl hl.1 rfl (lv_room (Nat.le_of_ble_eq_true rfl)) di_Law_9 ⟨Nat.le_of_ble_eq_true rfl, Nat.le_of_ble_eq_true rfl⟩) hS (fun q _ h => hFc q h) hFc (fun u t H1 locs ht hvm hw hB hz1 hk1 hS => ?_)
  obtain ⟨hP1, hD1⟩ := hB
  rw [ht] at hP1
  obtain ⟨fq1, rfl⟩ := dh_lenf hw
  obtain ⟨hP, hD⟩ := dh_joinA hP hD hk1 hFc hP1 hD1
  clear hPc hDc hFc hP1 hD1 hk1 hz1 hw ht hvm
  generalize H1 = H at hP hS ⊢
  refine va_putF (D := D) (ci := 1) (v := .ref q1) (ty := .object "DoubleHeap$Rules") (C := RX1) (T := TX1) (N := 5) hx hb hts dh_u1 tyX1 tyX1_ok nmX1 hown hK hP hD hS 0 rfl rfl 0 (by decide) (hts (.fieldLink RX1 12 RX1 "rules" "LDoubleHeap$Rules;") (dh_has_in (i := 399) (by decide +kernel))) (fun _ h9 => h9) rfl hin rfl (by decide +kernel) rfl rfl (Nat.le_of_ble_eq_true rfl) di_Law_12 (fun H locs hP hD hS => ?_)
  refine lv_aload_n hx hb di_Law_15 rfl (lv_at hl 0 rfl) ?_
  refine lv_iconst (v := 0) hx hb di_Law_16 (by decide) ?_
  refine va_put (D := D) (ci := 1) (v := .int 0) (ty := .boolean) (C := RX1) (T := TX1) (N := 5) hx hb hts dh_u1 tyX1 tyX1_ok nmX1 hown hK hP hD hS 0 rfl rfl 1 (by decide) (hts (.fieldLink RX1 18 RX1 "told" "Z") (dh_has_in (i := 401) (by decide +kernel))) (fun _ h9 => h9) rfl (by decide +kernel) rfl rfl (Nat.le_of_ble_eq_true rfl) di_Law_17 (fun H locs hP hD hS => ?_)
  refine lv_aload_n hx hb di_Law_20 rfl (lv_at hl 0 rfl) ?_
  refine lv_sipush (v := 1681) hx hb di_Law_21 (by decide) ?_
  refine va_newa (atype := .long) (a0 := (1681, .inr (.inl (fun _ => 0)))) hx hb (hts _ dh_w_aJ) rfl hK hP hD hS hA (fun _ => rfl) (by decide) (by decide) (by decide) (Nat.le_of_ble_eq_true rfl) (Nat.le_of_ble_eq_true rfl) di_Law_24 (fun q2 cA H hK1 hP hD hS => ?_)
  obtain rfl := dh_ta2 hK1
  clear hK1
  refine va_putF (D := D) (ci := 1) (v := .ref q2) (ty := .array .long) (C := RX1) (T := TX1) (N := 5) hx hb hts dh_u1 tyX1 tyX1_ok nmX1 hown hK hP hD hS 0 rfl rfl 2 (by decide) (hts (.fieldLink RX1 22 RX1 "takes" "[J") (dh_has_in (i := 403) (by decide +kernel))) (fun _ h9 => h9) rfl hin rfl (by decide +kernel) rfl rfl (Nat.le_of_ble_eq_true rfl) di_Law_26 (fun H locs hP hD hS => ?_)
  refine lv_aload_n hx hb di_Law_29 rfl (lv_at hl 0 rfl) ?_
  refine lv_bipush (v := 41) hx hb di_Law_30 (by decide) ?_
  refine va_newa (atype := .long) (a0 := (41, .inr (.inl (fun _ => 0)))) hx hb (hts _ dh_w_aJ) rfl hK hP hD hS hA (fun _ => rfl) (by decide) (by decide) (by decide) (Nat.le_of_ble_eq_true rfl) (Nat.le_of_ble_eq_true rfl) di_Law_32 (fun q3 cA H hK1 hP hD hS => ?_)
  obtain rfl := dh_ta2 hK1
  clear hK1
  refine va_putF (D := D) (ci := 1) (v := .ref q3) (ty := .array .long) (C := RX1) (T := TX1) (N := 5) hx hb hts dh_u1 tyX1 tyX1_ok nmX1 hown hK hP hD hS 0 rfl rfl 3 (by decide) (hts (.fieldLink RX1 26 RX1 "losing" "[J") (dh_has_in (i := 404) (by decide +kernel))) (fun _ h9 => h9) rfl hin rfl (by decide +kernel) rfl rfl (Nat.le_of_ble_eq_true rfl) di_Law_34 (fun H locs hP hD hS => ?_)
  refine lv_aload_n hx hb di_Law_37 rfl (lv_at hl 0 rfl) ?_
  refine lv_iconst (v := 0) hx hb di_Law_38 (by decide) ?_
  refine va_put (D := D) (ci := 1) (v := .int 0) (ty := .int) (C := RX1) (T := TX1) (N := 5) hx hb hts dh_u1 tyX1 tyX1_ok nmX1 hown hK hP hD hS 0 rfl rfl 4 (by decide) (hts (.fieldLink RX1 29 RX1 "readyHeaps" "I") (dh_has_in (i := 405) (by decide +kernel))) (fun _ h9 => h9) rfl (by decide +kernel) rfl rfl (Nat.le_of_ble_eq_true rfl) di_Law_39 (fun H locs hP hD hS => ?_)
  have hP9 : va_P D vwCl (dh_sg ta sg_Law dh_z (h0 :: [q1, fq1 0, fq1 1, fq1 2, fq1 3, fq1 4, fq1 5, q2, q3])) H := hP
  have hD9 : va_D A (dh_sg ta sg_Law dh_z (h0 :: [q1, fq1 0, fq1 1, fq1 2, fq1 3, fq1 4, fq1 5, q2, q3])) := hD
  refine W.widen (k := 9) (n := 2100) (Nat.le_of_ble_eq_true rfl) (Nat.le_of_ble_eq_true rfl) ?_
  exact W.vret hx hb hr (fun t ht hW => ⟨⟨[q1, fq1 0, fq1 1, fq1 2, fq1 3, fq1 4, fq1 5, q2, q3], rfl, rfl, by rw [ht]; exact hP9, hD9⟩, hS.F ht⟩) hS.2.2 di_Law_42
def sg_LawReader : List (Nat × Nat × Nat × Nat) := [(0, 2, 0, 0), (0, 5, 0, 0), (1, 160, 0, 0), (1, 160, 0, 0), (1, 8, 0, 0), (1, 8, 0, 0), (1, 8, 0, 0), (1, 24, 0, 0), (1, 160, 0, 0)]
def yi_LawReader : MethodName := ⟨"DoubleHeap$LawReader", "<init>", "()V"⟩
set_option maxRecDepth 100000 in
theorem cwi_LawReader : Cond.code yi_LawReader prog_4_method_1_code 1 none ∈ dh_B := dh_B_at 198 rfl rfl
theorem gwi_LawReader : GoodIn dh_B (Cond.code yi_LawReader prog_4_method_1_code 1 none :: dh_B) := fun w hw => (List.mem_cons.mp hw).elim (fun e => e ▸ dh_goodIn _ cwi_LawReader) (fun h => dh_goodIn _ h)
theorem di_LawReader_0 : decode prog_4_method_1_code 0 = .ok (.aload_n 0, 1) := by decide +kernel
theorem di_LawReader_1 : decode prog_4_method_1_code 1 = .ok (.invokespecial 3, 3) := by decide +kernel
theorem di_LawReader_4 : decode prog_4_method_1_code 4 = .ok (.aload_n 0, 1) := by decide +kernel
theorem di_LawReader_5 : decode prog_4_method_1_code 5 = .ok (.new 9, 3) := by decide +kernel
theorem di_LawReader_8 : decode prog_4_method_1_code 8 = .ok (.dup, 1) := by decide +kernel
theorem di_LawReader_9 : decode prog_4_method_1_code 9 = .ok (.invokespecial 11, 3) := by decide +kernel
theorem di_LawReader_12 : decode prog_4_method_1_code 12 = .ok (.putfield 12, 3) := by decide +kernel
theorem di_LawReader_15 : decode prog_4_method_1_code 15 = .ok (.aload_n 0, 1) := by decide +kernel
theorem di_LawReader_16 : decode prog_4_method_1_code 16 = .ok (.sipush 160, 3) := by decide +kernel
theorem di_LawReader_19 : decode prog_4_method_1_code 19 = .ok (.newarray .int, 2) := by decide +kernel
theorem di_LawReader_21 : decode prog_4_method_1_code 21 = .ok (.putfield 18, 3) := by decide +kernel
theorem di_LawReader_24 : decode prog_4_method_1_code 24 = .ok (.aload_n 0, 1) := by decide +kernel
theorem di_LawReader_25 : decode prog_4_method_1_code 25 = .ok (.iconst 0, 1) := by decide +kernel
theorem di_LawReader_26 : decode prog_4_method_1_code 26 = .ok (.putfield 22, 3) := by decide +kernel
theorem di_LawReader_29 : decode prog_4_method_1_code 29 = .ok (.aload_n 0, 1) := by decide +kernel
theorem di_LawReader_30 : decode prog_4_method_1_code 30 = .ok (.iconst 0, 1) := by decide +kernel
theorem di_LawReader_31 : decode prog_4_method_1_code 31 = .ok (.putfield 26, 3) := by decide +kernel
theorem di_LawReader_34 : decode prog_4_method_1_code 34 = .ok (.aload_n 0, 1) := by decide +kernel
theorem di_LawReader_35 : decode prog_4_method_1_code 35 = .ok (.iconst 0, 1) := by decide +kernel
theorem di_LawReader_36 : decode prog_4_method_1_code 36 = .ok (.putfield 29, 3) := by decide +kernel
theorem di_LawReader_39 : decode prog_4_method_1_code 39 = .ok (.return_, 1) := by decide +kernel
set_option maxHeartbeats 8000000 in
set_option maxRecDepth 100000 in
theorem k_LawReader (l : Launch) (D : va_G) (ta : Nat → ClassId) (h0 sz : Nat) : Met l yi_LawReader (Cond.code yi_LawReader prog_4_method_1_code 1 none :: dh_B) ({ frames := 2, cells := 8, slots := 538, locals := 100 }) (dh_Pi D ta [.ref h0] [(h0, .inr (2, [.null, .null, .int 0, .int 0, .int 0]))] sz) (va_Qv (fun u : List Nat => u.length = 8) (fun u t => va_P D vwCl (dh_sg ta sg_LawReader dh_z (h0 :: u)) t.heap ∧ va_D (va_A [(h0, .inr (2, [.null, .null, .int 0, .int 0, .int 0]))] sz) (dh_sg ta sg_LawReader dh_z (h0 :: u))) (va_A [(h0, .inr (2, [.null, .null, .int 0, .int 0, .int 0]))] sz)) 8 538 (va_A [(h0, .inr (2, [.null, .null, .int 0, .int 0, .int 0]))] sz) := by
  refine Met.ofW (cc := prog_4_method_1_code) (maxL := 1) (ret := none) (by decide) rfl ?_
  intro p e s m args below meth c s₁ B hml hv
  obtain ⟨rfl, hsz, hP, hK, hD0, hN, hO⟩ := hv
  have hx := B.exec
  have hb := B.bytes
  have hr := B.returns
  have hts0 := atoms_spec (ws := Cond.code yi_LawReader prog_4_method_1_code 1 none :: dh_B) B.pre
  have hts : ∀ w ∈ dh_B, w.before #[Value.ref h0] s = true := fun w hw => hts0 w (List.mem_cons_of_mem _ hw)
  have hown : s.vm.findClass RX2 = some m.cls := findClass_of_methodNamed B.named
  have hlocks := B.notSynchronized
  have hin : meth.name = "<init>" := (name_of_methodNamed B.named B.method).1
  subst hsz
  have hD := hD0.self (sz := s.heap.size)
  generalize hAe : va_A [(h0, .inr (2, [.null, .null, .int 0, .int 0, .int 0]))] s.heap.size = A at hD ⊢
  have hA : ∀ q : Nat, s.heap.size ≤ q → A q := fun q h => by rw [← hAe]; exact Or.inr h
  have hS : va_S A s.heap s.heap [] := va_S.rf
  have hl := lv_entry ([.ref h0]) (n := 1) (Nat.le_of_ble_eq_true rfl)
  rw [lg_entry_eq]
  generalize (lg_sl ([.ref h0]) ++ List.replicate (1 - (lg_sl ([.ref h0])).length) Slot.unset).toArray = ls at hl ⊢
  have hl : lv_has ls 1 [(0, .ref h0)] := hl
  refine lv_aload_n hx hb di_LawReader_0 rfl (lv_at hl 0 rfl) ?_
  refine W.objInit hx hb hown (hts (.methodLink RX2 3 Lib.objectInit) (dh_has_in (i := 199) (by decide +kernel))) (hts _ dh_w_oi) (hts _ dh_w_oc) rfl (by rw [hml]; exact hl.1) rfl di_LawReader_1 (Nat.le_of_ble_eq_true rfl) (Nat.le_of_ble_eq_true rfl) ?_
  refine W.eq (g2 := F0 m 4 ls []) rfl ?_
  refine lv_aload_n hx hb di_LawReader_4 rfl (lv_at hl 0 rfl) ?_
  refine va_new (ci := 5) (fs := [.null, .null, .int 0, .null, .null, .null, .int 0, .null, .int 0, .int 0]) (C := RX5) (T := TX5) (N := 10) hx hb hts dh_u5 tyX5 tyX5_ok hown (hts (.classLink RX2 9 RX5) (dh_has_in (i := 200) (by decide +kernel))) (hts (.instantiable RX5 10) (dh_has_in (i := 201) (by decide +kernel))) (hts (.initialized RX5) (dh_has_in (i := 154) (by decide +kernel))) hK hP hD hS hA rfl (by decide +kernel) (Nat.le_of_ble_eq_true rfl) (Nat.le_of_ble_eq_true rfl) di_LawReader_5 (fun q1 H hP hD hS => ?_)
  refine lv_dup hx hb di_LawReader_8 rfl ?_
  have hPc : va_P D vwCl [(q1, .inr (5, [.null, .null, .int 0, .null, .null, .null, .int 0, .null, .int 0, .int 0]))] H := dh_Pr hP
  have hDc : va_D A [(q1, .inr (5, [.null, .null, .int 0, .null, .null, .null, .int 0, .null, .int 0, .int 0]))] := dh_Dr hD
  have hFc := dh_Fr (wc := [(q1, .inr (5, [.null, .null, .int 0, .null, .null, .null, .int 0, .null, .int 0, .int 0]))]) hD hS hA
  refine va_callv (va_runIN (As := []) (rest := [.ref q1, .ref h0]) ⟨hx, hb, hml, hown, hts⟩ (k_Rules l D ta q1 H.size) ⟨va_cnB (host := "DoubleHeap") 0 hts gwi_Rules rfl rfl rfl (hN _ (dh_hasN_in (i := 202) (by decide +kernel) rfl)) (hts (.initialized RX5) (dh_has_in (i := 154) (by decide +kernel))) (by decide +kernel) ⟨Nat.le_of_ble_eq_true rfl, Nat.le_of_ble_eq_true rfl⟩, rfl, hts (.instanceMethod yi_Rules) (dh_has_in (i := 203) (by decide +kernel))⟩ ⟨dh_Pi_blind, fun U hU hW => ⟨rfl, by rw [hU], by rw [hU]; exact hPc, va_K.moved hW.alike hK, hDc.weaken (fun _ _ _ _ => trivial), hN.warm hW, hO.moved hW.alike⟩⟩ rfl rfl hl.1 rfl (lv_room (Nat.le_of_ble_eq_true rfl)) di_LawReader_9 ⟨Nat.le_of_ble_eq_true rfl, Nat.le_of_ble_eq_true rfl⟩) hS (fun q _ h => hFc q h) hFc (fun u t H1 locs ht hvm hw hB hz1 hk1 hS => ?_)
  obtain ⟨hP1, hD1⟩ := hB
  rw [ht] at hP1
  obtain ⟨fq1, rfl⟩ := dh_lenf hw
  obtain ⟨hP, hD⟩ := dh_joinA hP hD hk1 hFc hP1 hD1
  clear hPc hDc hFc hP1 hD1 hk1 hz1 hw ht hvm
  generalize H1 = H at hP hS ⊢
  refine va_putF (D := D) (ci := 2) (v := .ref q1) (ty := .object "DoubleHeap$Rules") (C := RX2) (T := TX2) (N := 5) hx hb hts dh_u2 tyX2 tyX2_ok nmX2 hown hK hP hD hS 0 rfl rfl 0 (by decide) (hts (.fieldLink RX2 12 RX2 "draft" "LDoubleHeap$Rules;") (dh_has_in (i := 240) (by decide +kernel))) (fun _ h9 => h9) rfl hin rfl (by decide +kernel) rfl rfl (Nat.le_of_ble_eq_true rfl) di_LawReader_12 (fun H locs hP hD hS => ?_)
  refine lv_aload_n hx hb di_LawReader_15 rfl (lv_at hl 0 rfl) ?_
  refine lv_sipush (v := 160) hx hb di_LawReader_16 (by decide) ?_
  refine va_newa (atype := .int) (a0 := (160, .inl (fun _ => 0))) hx hb (hts _ dh_w_aI) rfl hK hP hD hS hA (fun _ => rfl) (by decide) (by decide) (by decide) (Nat.le_of_ble_eq_true rfl) (Nat.le_of_ble_eq_true rfl) di_LawReader_19 (fun q2 cA H hK1 hP hD hS => ?_)
  obtain rfl := dh_ta1 hK1
  clear hK1
  refine va_putF (D := D) (ci := 2) (v := .ref q2) (ty := .array .int) (C := RX2) (T := TX2) (N := 5) hx hb hts dh_u2 tyX2 tyX2_ok nmX2 hown hK hP hD hS 0 rfl rfl 1 (by decide) (hts (.fieldLink RX2 18 RX2 "text" "[I") (dh_has_in (i := 242) (by decide +kernel))) (fun _ h9 => h9) rfl hin rfl (by decide +kernel) rfl rfl (Nat.le_of_ble_eq_true rfl) di_LawReader_21 (fun H locs hP hD hS => ?_)
  refine lv_aload_n hx hb di_LawReader_24 rfl (lv_at hl 0 rfl) ?_
  refine lv_iconst (v := 0) hx hb di_LawReader_25 (by decide) ?_
  refine va_put (D := D) (ci := 2) (v := .int 0) (ty := .int) (C := RX2) (T := TX2) (N := 5) hx hb hts dh_u2 tyX2 tyX2_ok nmX2 hown hK hP hD hS 0 rfl rfl 2 (by decide) (hts (.fieldLink RX2 22 RX2 "size" "I") (dh_has_in (i := 243) (by decide +kernel))) (fun _ h9 => h9) rfl (by decide +kernel) rfl rfl (Nat.le_of_ble_eq_true rfl) di_LawReader_26 (fun H locs hP hD hS => ?_)
  refine lv_aload_n hx hb di_LawReader_29 rfl (lv_at hl 0 rfl) ?_
  refine lv_iconst (v := 0) hx hb di_LawReader_30 (by decide) ?_
  refine va_put (D := D) (ci := 2) (v := .int 0) (ty := .int) (C := RX2) (T := TX2) (N := 5) hx hb hts dh_u2 tyX2 tyX2_ok nmX2 hown hK hP hD hS 0 rfl rfl 3 (by decide) (hts (.fieldLink RX2 26 RX2 "place" "I") (dh_has_in (i := 244) (by decide +kernel))) (fun _ h9 => h9) rfl (by decide +kernel) rfl rfl (Nat.le_of_ble_eq_true rfl) di_LawReader_31 (fun H locs hP hD hS => ?_)
  refine lv_aload_n hx hb di_LawReader_34 rfl (lv_at hl 0 rfl) ?_
  refine lv_iconst (v := 0) hx hb di_LawReader_35 (by decide) ?_
  refine va_put (D := D) (ci := 2) (v := .int 0) (ty := .int) (C := RX2) (T := TX2) (N := 5) hx hb hts dh_u2 tyX2 tyX2_ok nmX2 hown hK hP hD hS 0 rfl rfl 4 (by decide) (hts (.fieldLink RX2 29 RX2 "failed" "I") (dh_has_in (i := 245) (by decide +kernel))) (fun _ h9 => h9) rfl (by decide +kernel) rfl rfl (Nat.le_of_ble_eq_true rfl) di_LawReader_36 (fun H locs hP hD hS => ?_)
  have hP9 : va_P D vwCl (dh_sg ta sg_LawReader dh_z (h0 :: [q1, fq1 0, fq1 1, fq1 2, fq1 3, fq1 4, fq1 5, q2])) H := hP
  have hD9 : va_D A (dh_sg ta sg_LawReader dh_z (h0 :: [q1, fq1 0, fq1 1, fq1 2, fq1 3, fq1 4, fq1 5, q2])) := hD
  refine W.widen (k := 8) (n := 538) (Nat.le_of_ble_eq_true rfl) (Nat.le_of_ble_eq_true rfl) ?_
  exact W.vret hx hb hr (fun t ht hW => ⟨⟨[q1, fq1 0, fq1 1, fq1 2, fq1 3, fq1 4, fq1 5, q2], rfl, rfl, by rw [ht]; exact hP9, hD9⟩, hS.F ht⟩) hS.2.2 di_LawReader_39
