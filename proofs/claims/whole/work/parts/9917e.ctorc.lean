def dh_r1 : Nat → Nat → Int32 := fun p k => if p = 0 ∧ (k = 12 ∨ k = 13) then 1 else 0
def sg_Heap : List (Nat × Nat × Nat × Nat) := [(0, 10, 0, 0), (5, 4, 79, 10), (6, 9, 118, 3), (0, 8, 0, 0), (1, 260, 0, 0), (0, 2, 0, 0), (0, 5, 0, 0), (1, 160, 0, 0), (1, 160, 0, 0), (1, 8, 0, 0), (1, 8, 0, 0), (1, 8, 0, 0), (1, 24, 0, 0), (1, 160, 0, 0), (0, 7, 0, 0), (1, 40, 0, 0), (1, 40, 0, 0), (0, 9, 0, 0), (1, 1681, 0, 0), (1, 1681, 0, 0), (1, 1681, 0, 0), (2, 1681, 0, 0), (2, 1681, 0, 0), (0, 4, 0, 0), (2, 441, 0, 0), (2, 41, 0, 0), (2, 41, 0, 0), (2, 41, 0, 0), (2, 164, 0, 0), (0, 3, 0, 0), (1, 40, 0, 0), (7, 41, 1, 1), (1, 201, 0, 0), (1, 201, 0, 0), (1, 201, 0, 0), (1, 201, 0, 0), (1, 201, 0, 0), (1, 201, 0, 0), (1, 201, 0, 0), (1, 201, 0, 0), (1, 201, 0, 0), (1, 201, 0, 0), (1, 201, 0, 0), (1, 201, 0, 0), (1, 201, 0, 0), (1, 201, 0, 0), (1, 201, 0, 0), (1, 201, 0, 0), (1, 201, 0, 0), (1, 201, 0, 0), (1, 201, 0, 0), (1, 201, 0, 0), (1, 201, 0, 0), (1, 201, 0, 0), (1, 201, 0, 0), (1, 201, 0, 0), (1, 201, 0, 0), (1, 201, 0, 0), (1, 201, 0, 0), (1, 201, 0, 0), (1, 201, 0, 0), (1, 201, 0, 0), (1, 201, 0, 0), (1, 201, 0, 0), (1, 201, 0, 0), (1, 201, 0, 0), (1, 201, 0, 0), (1, 201, 0, 0), (1, 201, 0, 0), (1, 201, 0, 0), (1, 201, 0, 0), (1, 201, 0, 0), (1, 201, 0, 0), (2, 25, 0, 0), (2, 41, 0, 0), (0, 0, 0, 0), (0, 6, 0, 0), (1, 40, 0, 0), (0, 6, 0, 0), (1, 40, 0, 0), (0, 1, 0, 0), (0, 5, 0, 0), (1, 160, 0, 0), (1, 160, 0, 0), (1, 8, 0, 0), (1, 8, 0, 0), (1, 8, 0, 0), (1, 24, 0, 0), (2, 1681, 0, 0), (2, 41, 0, 0), (0, 1, 0, 0), (0, 5, 0, 0), (1, 160, 0, 0), (1, 160, 0, 0), (1, 8, 0, 0), (1, 8, 0, 0), (1, 8, 0, 0), (1, 24, 0, 0), (2, 1681, 0, 0), (2, 41, 0, 0), (0, 1, 0, 0), (0, 5, 0, 0), (1, 160, 0, 0), (1, 160, 0, 0), (1, 8, 0, 0), (1, 8, 0, 0), (1, 8, 0, 0), (1, 24, 0, 0), (2, 1681, 0, 0), (2, 41, 0, 0), (0, 1, 0, 0), (0, 5, 0, 0), (1, 160, 0, 0), (1, 160, 0, 0), (1, 8, 0, 0), (1, 8, 0, 0), (1, 8, 0, 0), (1, 24, 0, 0), (2, 1681, 0, 0), (2, 41, 0, 0), (0, 7, 0, 0), (1, 40, 0, 0), (1, 40, 0, 0), (0, 7, 0, 0), (1, 40, 0, 0), (1, 40, 0, 0), (0, 7, 0, 0), (1, 40, 0, 0), (1, 40, 0, 0), (0, 7, 0, 0), (1, 40, 0, 0), (1, 40, 0, 0), (0, 7, 0, 0), (1, 40, 0, 0), (1, 40, 0, 0), (0, 7, 0, 0), (1, 40, 0, 0), (1, 40, 0, 0), (0, 7, 0, 0), (1, 40, 0, 0), (1, 40, 0, 0), (0, 7, 0, 0), (1, 40, 0, 0), (1, 40, 0, 0), (0, 7, 0, 0), (1, 40, 0, 0), (1, 40, 0, 0)]
def yi_Heap : MethodName := ⟨"DoubleHeap", "<init>", "()V"⟩
set_option maxRecDepth 100000 in
theorem cwi_Heap : Cond.code yi_Heap prog_1_method_1_code 2 none ∈ dh_B := dh_B_at 171 rfl rfl
theorem gwi_Heap : GoodIn dh_B (Cond.code yi_Heap prog_1_method_1_code 2 none :: dh_B) := fun w hw => (List.mem_cons.mp hw).elim (fun e => e ▸ dh_goodIn _ cwi_Heap) (fun h => dh_goodIn _ h)
theorem di_Heap_0 : decode prog_1_method_1_code 0 = .ok (.aload_n 0, 1) := by decide +kernel
theorem di_Heap_1 : decode prog_1_method_1_code 1 = .ok (.invokespecial 3, 3) := by decide +kernel
theorem di_Heap_4 : decode prog_1_method_1_code 4 = .ok (.aload_n 0, 1) := by decide +kernel
theorem di_Heap_5 : decode prog_1_method_1_code 5 = .ok (.new 9, 3) := by decide +kernel
theorem di_Heap_8 : decode prog_1_method_1_code 8 = .ok (.dup, 1) := by decide +kernel
theorem di_Heap_9 : decode prog_1_method_1_code 9 = .ok (.invokespecial 11, 3) := by decide +kernel
theorem di_Heap_12 : decode prog_1_method_1_code 12 = .ok (.putfield 12, 3) := by decide +kernel
theorem di_Heap_15 : decode prog_1_method_1_code 15 = .ok (.aload_n 0, 1) := by decide +kernel
theorem di_Heap_16 : decode prog_1_method_1_code 16 = .ok (.iconst 4, 1) := by decide +kernel
theorem di_Heap_17 : decode prog_1_method_1_code 17 = .ok (.anewarray 16, 3) := by decide +kernel
theorem di_Heap_20 : decode prog_1_method_1_code 20 = .ok (.putfield 18, 3) := by decide +kernel
theorem di_Heap_23 : decode prog_1_method_1_code 23 = .ok (.aload_n 0, 1) := by decide +kernel
theorem di_Heap_24 : decode prog_1_method_1_code 24 = .ok (.bipush 9, 2) := by decide +kernel
theorem di_Heap_26 : decode prog_1_method_1_code 26 = .ok (.anewarray 22, 3) := by decide +kernel
theorem di_Heap_29 : decode prog_1_method_1_code 29 = .ok (.putfield 24, 3) := by decide +kernel
theorem di_Heap_32 : decode prog_1_method_1_code 32 = .ok (.aload_n 0, 1) := by decide +kernel
theorem di_Heap_33 : decode prog_1_method_1_code 33 = .ok (.new 28, 3) := by decide +kernel
theorem di_Heap_36 : decode prog_1_method_1_code 36 = .ok (.dup, 1) := by decide +kernel
theorem di_Heap_37 : decode prog_1_method_1_code 37 = .ok (.invokespecial 30, 3) := by decide +kernel
theorem di_Heap_40 : decode prog_1_method_1_code 40 = .ok (.putfield 31, 3) := by decide +kernel
theorem di_Heap_43 : decode prog_1_method_1_code 43 = .ok (.aload_n 0, 1) := by decide +kernel
theorem di_Heap_44 : decode prog_1_method_1_code 44 = .ok (.new 22, 3) := by decide +kernel
theorem di_Heap_47 : decode prog_1_method_1_code 47 = .ok (.dup, 1) := by decide +kernel
theorem di_Heap_48 : decode prog_1_method_1_code 48 = .ok (.invokespecial 35, 3) := by decide +kernel
theorem di_Heap_51 : decode prog_1_method_1_code 51 = .ok (.putfield 36, 3) := by decide +kernel
theorem di_Heap_54 : decode prog_1_method_1_code 54 = .ok (.aload_n 0, 1) := by decide +kernel
theorem di_Heap_55 : decode prog_1_method_1_code 55 = .ok (.new 40, 3) := by decide +kernel
theorem di_Heap_58 : decode prog_1_method_1_code 58 = .ok (.dup, 1) := by decide +kernel
theorem di_Heap_59 : decode prog_1_method_1_code 59 = .ok (.invokespecial 42, 3) := by decide +kernel
theorem di_Heap_62 : decode prog_1_method_1_code 62 = .ok (.putfield 43, 3) := by decide +kernel
theorem di_Heap_65 : decode prog_1_method_1_code 65 = .ok (.aload_n 0, 1) := by decide +kernel
theorem di_Heap_66 : decode prog_1_method_1_code 66 = .ok (.new 47, 3) := by decide +kernel
theorem di_Heap_69 : decode prog_1_method_1_code 69 = .ok (.dup, 1) := by decide +kernel
theorem di_Heap_70 : decode prog_1_method_1_code 70 = .ok (.invokespecial 49, 3) := by decide +kernel
theorem di_Heap_73 : decode prog_1_method_1_code 73 = .ok (.putfield 50, 3) := by decide +kernel
theorem di_Heap_76 : decode prog_1_method_1_code 76 = .ok (.aload_n 0, 1) := by decide +kernel
theorem di_Heap_77 : decode prog_1_method_1_code 77 = .ok (.new 54, 3) := by decide +kernel
theorem di_Heap_80 : decode prog_1_method_1_code 80 = .ok (.dup, 1) := by decide +kernel
theorem di_Heap_81 : decode prog_1_method_1_code 81 = .ok (.invokespecial 56, 3) := by decide +kernel
theorem di_Heap_84 : decode prog_1_method_1_code 84 = .ok (.putfield 57, 3) := by decide +kernel
theorem di_Heap_87 : decode prog_1_method_1_code 87 = .ok (.aload_n 0, 1) := by decide +kernel
theorem di_Heap_88 : decode prog_1_method_1_code 88 = .ok (.new 61, 3) := by decide +kernel
theorem di_Heap_91 : decode prog_1_method_1_code 91 = .ok (.dup, 1) := by decide +kernel
theorem di_Heap_92 : decode prog_1_method_1_code 92 = .ok (.invokespecial 63, 3) := by decide +kernel
theorem di_Heap_95 : decode prog_1_method_1_code 95 = .ok (.putfield 64, 3) := by decide +kernel
theorem di_Heap_98 : decode prog_1_method_1_code 98 = .ok (.aload_n 0, 1) := by decide +kernel
theorem di_Heap_99 : decode prog_1_method_1_code 99 = .ok (.new 68, 3) := by decide +kernel
theorem di_Heap_102 : decode prog_1_method_1_code 102 = .ok (.dup, 1) := by decide +kernel
theorem di_Heap_103 : decode prog_1_method_1_code 103 = .ok (.invokespecial 70, 3) := by decide +kernel
theorem di_Heap_106 : decode prog_1_method_1_code 106 = .ok (.putfield 71, 3) := by decide +kernel
theorem di_Heap_109 : decode prog_1_method_1_code 109 = .ok (.aload_n 0, 1) := by decide +kernel
theorem di_Heap_110 : decode prog_1_method_1_code 110 = .ok (.new 68, 3) := by decide +kernel
theorem di_Heap_113 : decode prog_1_method_1_code 113 = .ok (.dup, 1) := by decide +kernel
theorem di_Heap_114 : decode prog_1_method_1_code 114 = .ok (.invokespecial 70, 3) := by decide +kernel
theorem di_Heap_117 : decode prog_1_method_1_code 117 = .ok (.putfield 75, 3) := by decide +kernel
theorem di_Heap_120 : decode prog_1_method_1_code 120 = .ok (.aload_n 0, 1) := by decide +kernel
theorem di_Heap_121 : decode prog_1_method_1_code 121 = .ok (.iconst 0, 1) := by decide +kernel
theorem di_Heap_122 : decode prog_1_method_1_code 122 = .ok (.putfield 78, 3) := by decide +kernel
theorem di_Heap_125 : decode prog_1_method_1_code 125 = .ok (.aload_n 0, 1) := by decide +kernel
theorem di_Heap_126 : decode prog_1_method_1_code 126 = .ok (.iconst 1, 1) := by decide +kernel
theorem di_Heap_127 : decode prog_1_method_1_code 127 = .ok (.putfield 82, 3) := by decide +kernel
theorem di_Heap_130 : decode prog_1_method_1_code 130 = .ok (.aload_n 0, 1) := by decide +kernel
theorem di_Heap_131 : decode prog_1_method_1_code 131 = .ok (.iconst 1, 1) := by decide +kernel
theorem di_Heap_132 : decode prog_1_method_1_code 132 = .ok (.putfield 86, 3) := by decide +kernel
theorem di_Heap_135 : decode prog_1_method_1_code 135 = .ok (.iconst 0, 1) := by decide +kernel
theorem di_Heap_136 : decode prog_1_method_1_code 136 = .ok (.istore_n 1, 1) := by decide +kernel
theorem di_Heap_137 : decode prog_1_method_1_code 137 = .ok (.iload_n 1, 1) := by decide +kernel
theorem di_Heap_138 : decode prog_1_method_1_code 138 = .ok (.iconst 4, 1) := by decide +kernel
theorem di_Heap_139 : decode prog_1_method_1_code 139 = .ok (.if_icmp .ge 22, 3) := by decide +kernel
theorem di_Heap_142 : decode prog_1_method_1_code 142 = .ok (.aload_n 0, 1) := by decide +kernel
theorem di_Heap_143 : decode prog_1_method_1_code 143 = .ok (.getfield 18, 3) := by decide +kernel
theorem di_Heap_146 : decode prog_1_method_1_code 146 = .ok (.iload_n 1, 1) := by decide +kernel
theorem di_Heap_147 : decode prog_1_method_1_code 147 = .ok (.new 16, 3) := by decide +kernel
theorem di_Heap_150 : decode prog_1_method_1_code 150 = .ok (.dup, 1) := by decide +kernel
theorem di_Heap_151 : decode prog_1_method_1_code 151 = .ok (.invokespecial 89, 3) := by decide +kernel
theorem di_Heap_154 : decode prog_1_method_1_code 154 = .ok (.aastore, 1) := by decide +kernel
theorem di_Heap_155 : decode prog_1_method_1_code 155 = .ok (.iinc 1 1, 3) := by decide +kernel
theorem di_Heap_158 : decode prog_1_method_1_code 158 = .ok (.goto (-21), 3) := by decide +kernel
theorem di_Heap_161 : decode prog_1_method_1_code 161 = .ok (.iconst 0, 1) := by decide +kernel
theorem di_Heap_162 : decode prog_1_method_1_code 162 = .ok (.istore_n 1, 1) := by decide +kernel
theorem di_Heap_163 : decode prog_1_method_1_code 163 = .ok (.iload_n 1, 1) := by decide +kernel
theorem di_Heap_164 : decode prog_1_method_1_code 164 = .ok (.bipush 9, 2) := by decide +kernel
theorem di_Heap_166 : decode prog_1_method_1_code 166 = .ok (.if_icmp .ge 22, 3) := by decide +kernel
theorem di_Heap_169 : decode prog_1_method_1_code 169 = .ok (.aload_n 0, 1) := by decide +kernel
theorem di_Heap_170 : decode prog_1_method_1_code 170 = .ok (.getfield 24, 3) := by decide +kernel
theorem di_Heap_173 : decode prog_1_method_1_code 173 = .ok (.iload_n 1, 1) := by decide +kernel
theorem di_Heap_174 : decode prog_1_method_1_code 174 = .ok (.new 22, 3) := by decide +kernel
theorem di_Heap_177 : decode prog_1_method_1_code 177 = .ok (.dup, 1) := by decide +kernel
theorem di_Heap_178 : decode prog_1_method_1_code 178 = .ok (.invokespecial 35, 3) := by decide +kernel
theorem di_Heap_181 : decode prog_1_method_1_code 181 = .ok (.aastore, 1) := by decide +kernel
theorem di_Heap_182 : decode prog_1_method_1_code 182 = .ok (.iinc 1 1, 3) := by decide +kernel
theorem di_Heap_185 : decode prog_1_method_1_code 185 = .ok (.goto (-22), 3) := by decide +kernel
theorem di_Heap_188 : decode prog_1_method_1_code 188 = .ok (.return_, 1) := by decide +kernel
theorem dh_at3 {a b c x : Nat × va_E} {T r : va_W} {n : Nat} (h : T.length = n) : ([a, b, c] ++ (T ++ (x :: r)))[3 + n]? = some x := by
  subst h
  rw [List.getElem?_append_right (by simp), List.getElem?_append_right (by simp)]
  simp
theorem dh_hd_Law (ta : Nat → ClassId) (q : Nat) (u : List Nat) : ∃ vs r, dh_sg ta sg_Law dh_z (q :: u) = (q, .inr (1, vs)) :: r := ⟨_, _, rfl⟩
theorem dh_hd_Tale (ta : Nat → ClassId) (q : Nat) (u : List Nat) : ∃ vs r, dh_sg ta sg_Tale dh_z (q :: u) = (q, .inr (7, vs)) :: r := ⟨_, _, rfl⟩
set_option maxHeartbeats 8000000 in
set_option maxRecDepth 100000 in
theorem k_Heap (l : Launch) (D : va_G) (ta : Nat → ClassId) (h0 sz : Nat) : Met l yi_Heap (Cond.code yi_Heap prog_1_method_1_code 2 none :: dh_B) ({ frames := 4, cells := 146, slots := 27716, locals := 200 }) (dh_Pi D ta [.ref h0] [(h0, .inr (10, [.null, .null, .null, .null, .null, .null, .null, .null, .null, .null, .null, .int 0, .int 0, .int 0]))] sz) (va_Qv (fun u : List Nat => u.length = 146) (fun u t => va_P D vwCl (dh_sg ta sg_Heap dh_r1 (h0 :: u)) t.heap ∧ va_D (va_A [(h0, .inr (10, [.null, .null, .null, .null, .null, .null, .null, .null, .null, .null, .null, .int 0, .int 0, .int 0]))] sz) (dh_sg ta sg_Heap dh_r1 (h0 :: u))) (va_A [(h0, .inr (10, [.null, .null, .null, .null, .null, .null, .null, .null, .null, .null, .null, .int 0, .int 0, .int 0]))] sz)) 146 27716 (va_A [(h0, .inr (10, [.null, .null, .null, .null, .null, .null, .null, .null, .null, .null, .null, .int 0, .int 0, .int 0]))] sz) := by
  refine Met.ofW (cc := prog_1_method_1_code) (maxL := 2) (ret := none) (by decide) rfl ?_
  intro p e s m args below meth c s₁ B hml hv
  obtain ⟨rfl, hsz, hP, hK, hD0, hN, hO⟩ := hv
  have hx := B.exec
  have hb := B.bytes
  have hr := B.returns
  have hts0 := atoms_spec (ws := Cond.code yi_Heap prog_1_method_1_code 2 none :: dh_B) B.pre
  have hts : ∀ w ∈ dh_B, w.before #[Value.ref h0] s = true := fun w hw => hts0 w (List.mem_cons_of_mem _ hw)
  have hown : s.vm.findClass RX10 = some m.cls := findClass_of_methodNamed B.named
  have hlocks := B.notSynchronized
  have hin : meth.name = "<init>" := (name_of_methodNamed B.named B.method).1
  subst hsz
  have hD := hD0.self (sz := s.heap.size)
  generalize hAe : va_A [(h0, .inr (10, [.null, .null, .null, .null, .null, .null, .null, .null, .null, .null, .null, .int 0, .int 0, .int 0]))] s.heap.size = A at hD ⊢
  have hA : ∀ q : Nat, s.heap.size ≤ q → A q := fun q h => by rw [← hAe]; exact Or.inr h
  have hS : va_S A s.heap s.heap [] := va_S.rf
  have hl := lv_entry ([.ref h0]) (n := 2) (Nat.le_of_ble_eq_true rfl)
  rw [lg_entry_eq]
  generalize (lg_sl ([.ref h0]) ++ List.replicate (2 - (lg_sl ([.ref h0])).length) Slot.unset).toArray = ls at hl ⊢
  have hl : lv_has ls 2 [(0, .ref h0)] := hl
  obtain ⟨T_0, eT_0⟩ : ∃ z : va_W, z = [] := ⟨_, rfl⟩
  have hlen_0 : T_0.length = 0 := by rw [eT_0]; rfl
  have hPs : va_P D vwCl ([(h0, .inr (10, [.null, .null, .null, .null, .null, .null, .null, .null, .null, .null, .null, .int 0, .int 0, .int 0]))] ++ T_0) s.heap := by rw [eT_0]; exact hP
  have hDs : va_D A ([(h0, .inr (10, [.null, .null, .null, .null, .null, .null, .null, .null, .null, .null, .null, .int 0, .int 0, .int 0]))] ++ T_0) := by rw [eT_0]; exact hD
  clear hP hD
  have hP := hPs
  have hD := hDs
  clear hPs hDs
  refine lv_aload_n hx hb di_Heap_0 rfl (lv_at hl 0 rfl) ?_
  refine W.objInit hx hb hown (hts (.methodLink RX10 3 Lib.objectInit) (dh_has_in (i := 172) (by decide +kernel))) (hts _ dh_w_oi) (hts _ dh_w_oc) rfl (by rw [hml]; exact hl.1) rfl di_Heap_1 (Nat.le_of_ble_eq_true rfl) (Nat.le_of_ble_eq_true rfl) ?_
  refine W.eq (g2 := F0 m 4 ls []) rfl ?_
  refine lv_aload_n hx hb di_Heap_4 rfl (lv_at hl 0 rfl) ?_
  refine va_new (ci := 8) (fs := [.null, .int 0]) (C := RX8) (T := TX8) (N := 2) hx hb hts dh_u8 tyX8 tyX8_ok hown (hts (.classLink RX10 9 RX8) (dh_has_in (i := 175) (by decide +kernel))) (hts (.instantiable RX8 2) (dh_has_in (i := 176) (by decide +kernel))) (hts (.initialized RX8) (dh_has_in (i := 152) (by decide +kernel))) hK hP hD hS hA rfl (by decide +kernel) (Nat.le_of_ble_eq_true rfl) (Nat.le_of_ble_eq_true rfl) di_Heap_5 (fun q1 H_1 hP_2 hD_3 hS_4 => ?_)
  clear hP hD hS
  refine lv_dup hx hb di_Heap_8 rfl ?_
  have hPc : va_P D vwCl [(q1, .inr (8, [.null, .int 0]))] H_1 := dh_Pr hP_2
  have hDc : va_D A [(q1, .inr (8, [.null, .int 0]))] := dh_Dr hD_3
  have hFc := dh_Fr (wc := [(q1, .inr (8, [.null, .int 0]))]) hD_3 hS_4 hA
  refine va_callv (va_runIN (As := []) (rest := [.ref q1, .ref h0]) ⟨hx, hb, hml, hown, hts⟩ (k_Tape l D ta q1 H_1.size) ⟨va_cnB (host := "DoubleHeap") 0 hts gwi_Tape rfl rfl rfl (hN _ (dh_hasN_in (i := 177) (by decide +kernel) rfl)) (hts (.initialized RX8) (dh_has_in (i := 152) (by decide +kernel))) (by decide +kernel) ⟨Nat.le_of_ble_eq_true rfl, Nat.le_of_ble_eq_true rfl⟩, rfl, hts (.instanceMethod yi_Tape) (dh_has_in (i := 178) (by decide +kernel))⟩ ⟨dh_Pi_blind, fun U hU hW => ⟨rfl, by rw [hU], by rw [hU]; exact hPc, va_K.moved hW.alike hK, hDc.weaken (fun _ _ _ _ => trivial), hN.warm hW, hO.moved hW.alike⟩⟩ rfl rfl hl.1 rfl (lv_room (Nat.le_of_ble_eq_true rfl)) di_Heap_9 ⟨Nat.le_of_ble_eq_true rfl, Nat.le_of_ble_eq_true rfl⟩) hS_4 (fun q _ h => hFc q h) hFc (fun u t H_6 locs_7 ht hvm hw hB hz1 hk1 hS_8 => ?_)
  clear hS_4
  obtain ⟨hPx, hDx⟩ := hB
  rw [ht] at hPx
  obtain ⟨fq1, rfl⟩ := dh_lenf hw
  obtain ⟨hP_9, hD_10⟩ := dh_joinA hP_2 hD_3 hk1 hFc hPx hDx
  clear hP_2 hD_3
  clear hPc hDc hFc hPx hDx hk1 hz1 hw ht hvm
  have hPj : va_P D vwCl ([(h0, .inr (10, [.null, .null, .null, .null, .null, .null, .null, .null, .null, .null, .null, .int 0, .int 0, .int 0]))] ++ (T_0 ++ dh_sg ta sg_Tape dh_z (q1 :: (List.range 1).map fq1))) H_6 := by rw [← List.append_assoc]; exact hP_9
  have hDj : va_D A ([(h0, .inr (10, [.null, .null, .null, .null, .null, .null, .null, .null, .null, .null, .null, .int 0, .int 0, .int 0]))] ++ (T_0 ++ dh_sg ta sg_Tape dh_z (q1 :: (List.range 1).map fq1))) := by rw [← List.append_assoc]; exact hD_10
  clear hP_9 hD_10
  obtain ⟨T_1, eT_1⟩ : ∃ z, z = T_0 ++ dh_sg ta sg_Tape dh_z (q1 :: (List.range 1).map fq1) := ⟨_, rfl⟩
  rw [← eT_1] at hPj hDj
  have hlen_1 : T_1.length = 2 := by rw [eT_1, List.length_append, hlen_0]; rfl
  have hP_11 := hPj
  have hD_12 := hDj
  clear hPj hDj
  refine W.widen (k := 2) (n := 262) (Nat.le_of_ble_eq_true rfl) (Nat.le_of_ble_eq_true rfl) ?_
  refine va_putF (D := D) (ci := 10) (v := .ref q1) (ty := .object "DoubleHeap$Tape") (C := RX10) (T := TX10) (N := 14) hx hb hts dh_u10 tyX10 tyX10_ok nmX10 hown hK hP_11 hD_12 hS_8 0 rfl rfl 0 (by decide) (hts (.fieldLink RX10 12 RX10 "tape" "LDoubleHeap$Tape;") (dh_has_in (i := 417) (by decide +kernel))) (fun _ h9 => h9) rfl hin rfl (by decide +kernel) rfl rfl (Nat.le_of_ble_eq_true rfl) di_Heap_12 (fun H_13 locs_14 hP_15 hD_16 hS_17 => ?_)
  clear hP_11 hD_12 hS_8
  have hP_18 : va_P D vwCl ([(h0, .inr (10, [.ref q1, .null, .null, .null, .null, .null, .null, .null, .null, .null, .null, .int 0, .int 0, .int 0]))] ++ T_1) H_13 := hP_15
  clear hP_15
  have hD_19 : va_D A ([(h0, .inr (10, [.ref q1, .null, .null, .null, .null, .null, .null, .null, .null, .null, .null, .int 0, .int 0, .int 0]))] ++ T_1) := hD_16
  clear hD_16
  refine lv_aload_n hx hb di_Heap_15 rfl (lv_at hl 0 rfl) ?_
  refine lv_iconst (v := 4) hx hb di_Heap_16 (by decide) ?_
  refine va_newq hx hb hown (hts (.classLink RX10 16 "DoubleHeap$Law") (dh_has_in (i := 190) (by decide +kernel))) hO.1 hK hP_18 hD_19 hS_17 hA (n := 4) (N' := 4) (by decide) (by decide) (by decide) (Nat.le_of_ble_eq_true rfl) (Nat.le_of_ble_eq_true rfl) di_Heap_17 (fun q2 cA H_20 hK1 hP_21 hD_22 hS_23 => ?_)
  clear hP_18 hD_19 hS_17
  obtain rfl := dh_ta5 hK1
  clear hK1
  have hP_24 := va_P.swap hP_21
  clear hP_21
  have hD_25 := va_D.swap hD_22
  clear hD_22
  have hP_26 : va_P D vwCl ([(h0, .inr (10, [.ref q1, .null, .null, .null, .null, .null, .null, .null, .null, .null, .null, .int 0, .int 0, .int 0])), (q2, .inl (ta 5, 4, .inr (.inr (.inr (.inr (fun _ => none))))))] ++ T_1) H_20 := hP_24
  clear hP_24
  have hD_27 : va_D A ([(h0, .inr (10, [.ref q1, .null, .null, .null, .null, .null, .null, .null, .null, .null, .null, .int 0, .int 0, .int 0])), (q2, .inl (ta 5, 4, .inr (.inr (.inr (.inr (fun _ => none))))))] ++ T_1) := hD_25
  clear hD_25
  refine W.widen (k := 3) (n := 266) (Nat.le_of_ble_eq_true rfl) (Nat.le_of_ble_eq_true rfl) ?_
  refine va_putF (D := D) (ci := 10) (v := .ref q2) (ty := .array (.object "DoubleHeap$Law")) (C := RX10) (T := TX10) (N := 14) hx hb hts dh_u10 tyX10 tyX10_ok nmX10 hown hK hP_26 hD_27 hS_23 0 rfl rfl 1 (by decide) (hts (.fieldLink RX10 18 RX10 "laws" "[LDoubleHeap$Law;") (dh_has_in (i := 418) (by decide +kernel))) (fun _ h9 => h9) rfl hin rfl (by decide +kernel) rfl rfl (Nat.le_of_ble_eq_true rfl) di_Heap_20 (fun H_28 locs_29 hP_30 hD_31 hS_32 => ?_)
  clear hP_26 hD_27 hS_23
  have hP_33 : va_P D vwCl ([(h0, .inr (10, [.ref q1, .ref q2, .null, .null, .null, .null, .null, .null, .null, .null, .null, .int 0, .int 0, .int 0])), (q2, .inl (ta 5, 4, .inr (.inr (.inr (.inr (fun _ => none))))))] ++ T_1) H_28 := hP_30
  clear hP_30
  have hD_34 : va_D A ([(h0, .inr (10, [.ref q1, .ref q2, .null, .null, .null, .null, .null, .null, .null, .null, .null, .int 0, .int 0, .int 0])), (q2, .inl (ta 5, 4, .inr (.inr (.inr (.inr (fun _ => none))))))] ++ T_1) := hD_31
  clear hD_31
  refine lv_aload_n hx hb di_Heap_23 rfl (lv_at hl 0 rfl) ?_
  refine lv_bipush (v := 9) hx hb di_Heap_24 (by decide) ?_
  refine va_newq hx hb hown (hts (.classLink RX10 22 "DoubleHeap$Tale") (dh_has_in (i := 192) (by decide +kernel))) hO.2.1 hK hP_33 hD_34 hS_32 hA (n := 9) (N' := 9) (by decide) (by decide) (by decide) (Nat.le_of_ble_eq_true rfl) (Nat.le_of_ble_eq_true rfl) di_Heap_26 (fun q3 cA H_35 hK1 hP_36 hD_37 hS_38 => ?_)
  clear hP_33 hD_34 hS_32
  obtain rfl := dh_ta6 hK1
  clear hK1
  have hP_39 := va_P.swap hP_36
  clear hP_36
  have hD_40 := va_D.swap hD_37
  clear hD_37
  have hP_41 : va_P D vwCl ([(h0, .inr (10, [.ref q1, .ref q2, .null, .null, .null, .null, .null, .null, .null, .null, .null, .int 0, .int 0, .int 0])), (q2, .inl (ta 5, 4, .inr (.inr (.inr (.inr (fun _ => none)))))), (q3, .inl (ta 6, 9, .inr (.inr (.inr (.inr (fun _ => none))))))] ++ T_1) H_35 := hP_39
  clear hP_39
  have hD_42 : va_D A ([(h0, .inr (10, [.ref q1, .ref q2, .null, .null, .null, .null, .null, .null, .null, .null, .null, .int 0, .int 0, .int 0])), (q2, .inl (ta 5, 4, .inr (.inr (.inr (.inr (fun _ => none)))))), (q3, .inl (ta 6, 9, .inr (.inr (.inr (.inr (fun _ => none))))))] ++ T_1) := hD_40
  clear hD_40
  refine W.widen (k := 4) (n := 275) (Nat.le_of_ble_eq_true rfl) (Nat.le_of_ble_eq_true rfl) ?_
  refine va_putF (D := D) (ci := 10) (v := .ref q3) (ty := .array (.object "DoubleHeap$Tale")) (C := RX10) (T := TX10) (N := 14) hx hb hts dh_u10 tyX10 tyX10_ok nmX10 hown hK hP_41 hD_42 hS_38 0 rfl rfl 2 (by decide) (hts (.fieldLink RX10 24 RX10 "tales" "[LDoubleHeap$Tale;") (dh_has_in (i := 419) (by decide +kernel))) (fun _ h9 => h9) rfl hin rfl (by decide +kernel) rfl rfl (Nat.le_of_ble_eq_true rfl) di_Heap_29 (fun H_43 locs_44 hP_45 hD_46 hS_47 => ?_)
  clear hP_41 hD_42 hS_38
  have hP_48 : va_P D vwCl ([(h0, .inr (10, [.ref q1, .ref q2, .ref q3, .null, .null, .null, .null, .null, .null, .null, .null, .int 0, .int 0, .int 0])), (q2, .inl (ta 5, 4, .inr (.inr (.inr (.inr (fun _ => none)))))), (q3, .inl (ta 6, 9, .inr (.inr (.inr (.inr (fun _ => none))))))] ++ T_1) H_43 := hP_45
  clear hP_45
  have hD_49 : va_D A ([(h0, .inr (10, [.ref q1, .ref q2, .ref q3, .null, .null, .null, .null, .null, .null, .null, .null, .int 0, .int 0, .int 0])), (q2, .inl (ta 5, 4, .inr (.inr (.inr (.inr (fun _ => none)))))), (q3, .inl (ta 6, 9, .inr (.inr (.inr (.inr (fun _ => none))))))] ++ T_1) := hD_46
  clear hD_46
  refine lv_aload_n hx hb di_Heap_32 rfl (lv_at hl 0 rfl) ?_
  refine va_new (ci := 2) (fs := [.null, .null, .int 0, .int 0, .int 0]) (C := RX2) (T := TX2) (N := 5) hx hb hts dh_u2 tyX2 tyX2_ok hown (hts (.classLink RX10 28 RX2) (dh_has_in (i := 194) (by decide +kernel))) (hts (.instantiable RX2 5) (dh_has_in (i := 195) (by decide +kernel))) (hts (.initialized RX2) (dh_has_in (i := 153) (by decide +kernel))) hK hP_48 hD_49 hS_47 hA rfl (by decide +kernel) (Nat.le_of_ble_eq_true rfl) (Nat.le_of_ble_eq_true rfl) di_Heap_33 (fun q4 H_50 hP_51 hD_52 hS_53 => ?_)
  clear hP_48 hD_49 hS_47
  refine lv_dup hx hb di_Heap_36 rfl ?_
  have hPc : va_P D vwCl [(q4, .inr (2, [.null, .null, .int 0, .int 0, .int 0]))] H_50 := dh_Pr hP_51
  have hDc : va_D A [(q4, .inr (2, [.null, .null, .int 0, .int 0, .int 0]))] := dh_Dr hD_52
  have hFc := dh_Fr (wc := [(q4, .inr (2, [.null, .null, .int 0, .int 0, .int 0]))]) hD_52 hS_53 hA
  refine va_callv (va_runIN (As := []) (rest := [.ref q4, .ref h0]) ⟨hx, hb, hml, hown, hts⟩ (k_LawReader l D ta q4 H_50.size) ⟨va_cnB (host := "DoubleHeap") 0 hts gwi_LawReader rfl rfl rfl (hN _ (dh_hasN_in (i := 196) (by decide +kernel) rfl)) (hts (.initialized RX2) (dh_has_in (i := 153) (by decide +kernel))) (by decide +kernel) ⟨Nat.le_of_ble_eq_true rfl, Nat.le_of_ble_eq_true rfl⟩, rfl, hts (.instanceMethod yi_LawReader) (dh_has_in (i := 197) (by decide +kernel))⟩ ⟨dh_Pi_blind, fun U hU hW => ⟨rfl, by rw [hU], by rw [hU]; exact hPc, va_K.moved hW.alike hK, hDc.weaken (fun _ _ _ _ => trivial), hN.warm hW, hO.moved hW.alike⟩⟩ rfl rfl hl.1 rfl (lv_room (Nat.le_of_ble_eq_true rfl)) di_Heap_37 ⟨Nat.le_of_ble_eq_true rfl, Nat.le_of_ble_eq_true rfl⟩) hS_53 (fun q _ h => hFc q h) hFc (fun u t H_55 locs_56 ht hvm hw hB hz1 hk1 hS_57 => ?_)
  clear hS_53
  obtain ⟨hPx, hDx⟩ := hB
  rw [ht] at hPx
  obtain ⟨fq4, rfl⟩ := dh_lenf hw
  obtain ⟨hP_58, hD_59⟩ := dh_joinA hP_51 hD_52 hk1 hFc hPx hDx
  clear hP_51 hD_52
  clear hPc hDc hFc hPx hDx hk1 hz1 hw ht hvm
  have hPj : va_P D vwCl ([(h0, .inr (10, [.ref q1, .ref q2, .ref q3, .null, .null, .null, .null, .null, .null, .null, .null, .int 0, .int 0, .int 0])), (q2, .inl (ta 5, 4, .inr (.inr (.inr (.inr (fun _ => none)))))), (q3, .inl (ta 6, 9, .inr (.inr (.inr (.inr (fun _ => none))))))] ++ (T_1 ++ dh_sg ta sg_LawReader dh_z (q4 :: (List.range 8).map fq4))) H_55 := by rw [← List.append_assoc]; exact hP_58
  have hDj : va_D A ([(h0, .inr (10, [.ref q1, .ref q2, .ref q3, .null, .null, .null, .null, .null, .null, .null, .null, .int 0, .int 0, .int 0])), (q2, .inl (ta 5, 4, .inr (.inr (.inr (.inr (fun _ => none)))))), (q3, .inl (ta 6, 9, .inr (.inr (.inr (.inr (fun _ => none))))))] ++ (T_1 ++ dh_sg ta sg_LawReader dh_z (q4 :: (List.range 8).map fq4))) := by rw [← List.append_assoc]; exact hD_59
  clear hP_58 hD_59
  obtain ⟨T_2, eT_2⟩ : ∃ z, z = T_1 ++ dh_sg ta sg_LawReader dh_z (q4 :: (List.range 8).map fq4) := ⟨_, rfl⟩
  rw [← eT_2] at hPj hDj
  have hlen_2 : T_2.length = 11 := by rw [eT_2, List.length_append, hlen_1]; rfl
  have hP_60 := hPj
  have hD_61 := hDj
  clear hPj hDj
  refine W.widen (k := 13) (n := 818) (Nat.le_of_ble_eq_true rfl) (Nat.le_of_ble_eq_true rfl) ?_
  refine va_putF (D := D) (ci := 10) (v := .ref q4) (ty := .object "DoubleHeap$LawReader") (C := RX10) (T := TX10) (N := 14) hx hb hts dh_u10 tyX10 tyX10_ok nmX10 hown hK hP_60 hD_61 hS_57 0 rfl rfl 3 (by decide) (hts (.fieldLink RX10 31 RX10 "lawReader" "LDoubleHeap$LawReader;") (dh_has_in (i := 420) (by decide +kernel))) (fun _ h9 => h9) rfl hin rfl (by decide +kernel) rfl rfl (Nat.le_of_ble_eq_true rfl) di_Heap_40 (fun H_62 locs_63 hP_64 hD_65 hS_66 => ?_)
  clear hP_60 hD_61 hS_57
  have hP_67 : va_P D vwCl ([(h0, .inr (10, [.ref q1, .ref q2, .ref q3, .ref q4, .null, .null, .null, .null, .null, .null, .null, .int 0, .int 0, .int 0])), (q2, .inl (ta 5, 4, .inr (.inr (.inr (.inr (fun _ => none)))))), (q3, .inl (ta 6, 9, .inr (.inr (.inr (.inr (fun _ => none))))))] ++ T_2) H_62 := hP_64
  clear hP_64
  have hD_68 : va_D A ([(h0, .inr (10, [.ref q1, .ref q2, .ref q3, .ref q4, .null, .null, .null, .null, .null, .null, .null, .int 0, .int 0, .int 0])), (q2, .inl (ta 5, 4, .inr (.inr (.inr (.inr (fun _ => none)))))), (q3, .inl (ta 6, 9, .inr (.inr (.inr (.inr (fun _ => none))))))] ++ T_2) := hD_65
  clear hD_65
  refine lv_aload_n hx hb di_Heap_43 rfl (lv_at hl 0 rfl) ?_
  refine va_new (ci := 7) (fs := [.int 0, .int 0, .int 0, .null, .null]) (C := RX7) (T := TX7) (N := 5) hx hb hts dh_u7 tyX7 tyX7_ok hown (hts (.classLink RX10 22 RX7) (dh_has_in (i := 192) (by decide +kernel))) (hts (.instantiable RX7 5) (dh_has_in (i := 257) (by decide +kernel))) (hts (.initialized RX7) (dh_has_in (i := 155) (by decide +kernel))) hK hP_67 hD_68 hS_66 hA rfl (by decide +kernel) (Nat.le_of_ble_eq_true rfl) (Nat.le_of_ble_eq_true rfl) di_Heap_44 (fun q5 H_69 hP_70 hD_71 hS_72 => ?_)
  clear hP_67 hD_68 hS_66
  refine lv_dup hx hb di_Heap_47 rfl ?_
  have hPc : va_P D vwCl [(q5, .inr (7, [.int 0, .int 0, .int 0, .null, .null]))] H_69 := dh_Pr hP_70
  have hDc : va_D A [(q5, .inr (7, [.int 0, .int 0, .int 0, .null, .null]))] := dh_Dr hD_71
  have hFc := dh_Fr (wc := [(q5, .inr (7, [.int 0, .int 0, .int 0, .null, .null]))]) hD_71 hS_72 hA
  refine va_callv (va_runIN (As := []) (rest := [.ref q5, .ref h0]) ⟨hx, hb, hml, hown, hts⟩ (k_Tale l D ta q5 H_69.size) ⟨va_cnB (host := "DoubleHeap") 0 hts gwi_Tale rfl rfl rfl (hN _ (dh_hasN_in (i := 258) (by decide +kernel) rfl)) (hts (.initialized RX7) (dh_has_in (i := 155) (by decide +kernel))) (by decide +kernel) ⟨Nat.le_of_ble_eq_true rfl, Nat.le_of_ble_eq_true rfl⟩, rfl, hts (.instanceMethod yi_Tale) (dh_has_in (i := 259) (by decide +kernel))⟩ ⟨dh_Pi_blind, fun U hU hW => ⟨rfl, by rw [hU], by rw [hU]; exact hPc, va_K.moved hW.alike hK, hDc.weaken (fun _ _ _ _ => trivial), hN.warm hW, hO.moved hW.alike⟩⟩ rfl rfl hl.1 rfl (lv_room (Nat.le_of_ble_eq_true rfl)) di_Heap_48 ⟨Nat.le_of_ble_eq_true rfl, Nat.le_of_ble_eq_true rfl⟩) hS_72 (fun q _ h => hFc q h) hFc (fun u t H_74 locs_75 ht hvm hw hB hz1 hk1 hS_76 => ?_)
  clear hS_72
  obtain ⟨hPx, hDx⟩ := hB
  rw [ht] at hPx
  obtain ⟨fq5, rfl⟩ := dh_lenf hw
  obtain ⟨hP_77, hD_78⟩ := dh_joinA hP_70 hD_71 hk1 hFc hPx hDx
  clear hP_70 hD_71
  clear hPc hDc hFc hPx hDx hk1 hz1 hw ht hvm
  have hPj : va_P D vwCl ([(h0, .inr (10, [.ref q1, .ref q2, .ref q3, .ref q4, .null, .null, .null, .null, .null, .null, .null, .int 0, .int 0, .int 0])), (q2, .inl (ta 5, 4, .inr (.inr (.inr (.inr (fun _ => none)))))), (q3, .inl (ta 6, 9, .inr (.inr (.inr (.inr (fun _ => none))))))] ++ (T_2 ++ dh_sg ta sg_Tale dh_z (q5 :: (List.range 2).map fq5))) H_74 := by rw [← List.append_assoc]; exact hP_77
  have hDj : va_D A ([(h0, .inr (10, [.ref q1, .ref q2, .ref q3, .ref q4, .null, .null, .null, .null, .null, .null, .null, .int 0, .int 0, .int 0])), (q2, .inl (ta 5, 4, .inr (.inr (.inr (.inr (fun _ => none)))))), (q3, .inl (ta 6, 9, .inr (.inr (.inr (.inr (fun _ => none))))))] ++ (T_2 ++ dh_sg ta sg_Tale dh_z (q5 :: (List.range 2).map fq5))) := by rw [← List.append_assoc]; exact hD_78
  clear hP_77 hD_78
  obtain ⟨T_3, eT_3⟩ : ∃ z, z = T_2 ++ dh_sg ta sg_Tale dh_z (q5 :: (List.range 2).map fq5) := ⟨_, rfl⟩
  rw [← eT_3] at hPj hDj
  have hlen_3 : T_3.length = 14 := by rw [eT_3, List.length_append, hlen_2]; rfl
  have hP_79 := hPj
  have hD_80 := hDj
  clear hPj hDj
  refine W.widen (k := 16) (n := 903) (Nat.le_of_ble_eq_true rfl) (Nat.le_of_ble_eq_true rfl) ?_
  refine va_putF (D := D) (ci := 10) (v := .ref q5) (ty := .object "DoubleHeap$Tale") (C := RX10) (T := TX10) (N := 14) hx hb hts dh_u10 tyX10 tyX10_ok nmX10 hown hK hP_79 hD_80 hS_76 0 rfl rfl 4 (by decide) (hts (.fieldLink RX10 36 RX10 "draftTale" "LDoubleHeap$Tale;") (dh_has_in (i := 421) (by decide +kernel))) (fun _ h9 => h9) rfl hin rfl (by decide +kernel) rfl rfl (Nat.le_of_ble_eq_true rfl) di_Heap_51 (fun H_81 locs_82 hP_83 hD_84 hS_85 => ?_)
  clear hP_79 hD_80 hS_76
  have hP_86 : va_P D vwCl ([(h0, .inr (10, [.ref q1, .ref q2, .ref q3, .ref q4, .ref q5, .null, .null, .null, .null, .null, .null, .int 0, .int 0, .int 0])), (q2, .inl (ta 5, 4, .inr (.inr (.inr (.inr (fun _ => none)))))), (q3, .inl (ta 6, 9, .inr (.inr (.inr (.inr (fun _ => none))))))] ++ T_3) H_81 := hP_83
  clear hP_83
  have hD_87 : va_D A ([(h0, .inr (10, [.ref q1, .ref q2, .ref q3, .ref q4, .ref q5, .null, .null, .null, .null, .null, .null, .int 0, .int 0, .int 0])), (q2, .inl (ta 5, 4, .inr (.inr (.inr (.inr (fun _ => none)))))), (q3, .inl (ta 6, 9, .inr (.inr (.inr (.inr (fun _ => none))))))] ++ T_3) := hD_84
  clear hD_84
  refine lv_aload_n hx hb di_Heap_54 rfl (lv_at hl 0 rfl) ?_
  refine va_new (ci := 9) (fs := [.null, .null, .null, .null, .null]) (C := RX9) (T := TX9) (N := 5) hx hb hts dh_u9 tyX9 tyX9_ok hown (hts (.classLink RX10 40 RX9) (dh_has_in (i := 281) (by decide +kernel))) (hts (.instantiable RX9 5) (dh_has_in (i := 282) (by decide +kernel))) (hts (.initialized RX9) (dh_has_in (i := 156) (by decide +kernel))) hK hP_86 hD_87 hS_85 hA rfl (by decide +kernel) (Nat.le_of_ble_eq_true rfl) (Nat.le_of_ble_eq_true rfl) di_Heap_55 (fun q6 H_88 hP_89 hD_90 hS_91 => ?_)
  clear hP_86 hD_87 hS_85
  refine lv_dup hx hb di_Heap_58 rfl ?_
  have hPc : va_P D vwCl [(q6, .inr (9, [.null, .null, .null, .null, .null]))] H_88 := dh_Pr hP_89
  have hDc : va_D A [(q6, .inr (9, [.null, .null, .null, .null, .null]))] := dh_Dr hD_90
  have hFc := dh_Fr (wc := [(q6, .inr (9, [.null, .null, .null, .null, .null]))]) hD_90 hS_91 hA
  refine va_callv (va_runIN (As := []) (rest := [.ref q6, .ref h0]) ⟨hx, hb, hml, hown, hts⟩ (k_Walks l D ta q6 H_88.size) ⟨va_cnB (host := "DoubleHeap") 0 hts gwi_Walks rfl rfl rfl (hN _ (dh_hasN_in (i := 283) (by decide +kernel) rfl)) (hts (.initialized RX9) (dh_has_in (i := 156) (by decide +kernel))) (by decide +kernel) ⟨Nat.le_of_ble_eq_true rfl, Nat.le_of_ble_eq_true rfl⟩, rfl, hts (.instanceMethod yi_Walks) (dh_has_in (i := 284) (by decide +kernel))⟩ ⟨dh_Pi_blind, fun U hU hW => ⟨rfl, by rw [hU], by rw [hU]; exact hPc, va_K.moved hW.alike hK, hDc.weaken (fun _ _ _ _ => trivial), hN.warm hW, hO.moved hW.alike⟩⟩ rfl rfl hl.1 rfl (lv_room (Nat.le_of_ble_eq_true rfl)) di_Heap_59 ⟨Nat.le_of_ble_eq_true rfl, Nat.le_of_ble_eq_true rfl⟩) hS_91 (fun q _ h => hFc q h) hFc (fun u t H_93 locs_94 ht hvm hw hB hz1 hk1 hS_95 => ?_)
  clear hS_91
  obtain ⟨hPx, hDx⟩ := hB
  rw [ht] at hPx
  obtain ⟨fq6, rfl⟩ := dh_lenf hw
  obtain ⟨hP_96, hD_97⟩ := dh_joinA hP_89 hD_90 hk1 hFc hPx hDx
  clear hP_89 hD_90
  clear hPc hDc hFc hPx hDx hk1 hz1 hw ht hvm
  have hPj : va_P D vwCl ([(h0, .inr (10, [.ref q1, .ref q2, .ref q3, .ref q4, .ref q5, .null, .null, .null, .null, .null, .null, .int 0, .int 0, .int 0])), (q2, .inl (ta 5, 4, .inr (.inr (.inr (.inr (fun _ => none)))))), (q3, .inl (ta 6, 9, .inr (.inr (.inr (.inr (fun _ => none))))))] ++ (T_3 ++ dh_sg ta sg_Walks dh_z (q6 :: (List.range 5).map fq6))) H_93 := by rw [← List.append_assoc]; exact hP_96
  have hDj : va_D A ([(h0, .inr (10, [.ref q1, .ref q2, .ref q3, .ref q4, .ref q5, .null, .null, .null, .null, .null, .null, .int 0, .int 0, .int 0])), (q2, .inl (ta 5, 4, .inr (.inr (.inr (.inr (fun _ => none)))))), (q3, .inl (ta 6, 9, .inr (.inr (.inr (.inr (fun _ => none))))))] ++ (T_3 ++ dh_sg ta sg_Walks dh_z (q6 :: (List.range 5).map fq6))) := by rw [← List.append_assoc]; exact hD_97
  clear hP_96 hD_97
  obtain ⟨T_4, eT_4⟩ : ∃ z, z = T_3 ++ dh_sg ta sg_Walks dh_z (q6 :: (List.range 5).map fq6) := ⟨_, rfl⟩
  rw [← eT_4] at hPj hDj
  have hlen_4 : T_4.length = 20 := by rw [eT_4, List.length_append, hlen_3]; rfl
  have hP_98 := hPj
  have hD_99 := hDj
  clear hPj hDj
  refine W.widen (k := 22) (n := 9313) (Nat.le_of_ble_eq_true rfl) (Nat.le_of_ble_eq_true rfl) ?_
  refine va_putF (D := D) (ci := 10) (v := .ref q6) (ty := .object "DoubleHeap$Walks") (C := RX10) (T := TX10) (N := 14) hx hb hts dh_u10 tyX10 tyX10_ok nmX10 hown hK hP_98 hD_99 hS_95 0 rfl rfl 5 (by decide) (hts (.fieldLink RX10 43 RX10 "walks" "LDoubleHeap$Walks;") (dh_has_in (i := 422) (by decide +kernel))) (fun _ h9 => h9) rfl hin rfl (by decide +kernel) rfl rfl (Nat.le_of_ble_eq_true rfl) di_Heap_62 (fun H_100 locs_101 hP_102 hD_103 hS_104 => ?_)
  clear hP_98 hD_99 hS_95
  have hP_105 : va_P D vwCl ([(h0, .inr (10, [.ref q1, .ref q2, .ref q3, .ref q4, .ref q5, .ref q6, .null, .null, .null, .null, .null, .int 0, .int 0, .int 0])), (q2, .inl (ta 5, 4, .inr (.inr (.inr (.inr (fun _ => none)))))), (q3, .inl (ta 6, 9, .inr (.inr (.inr (.inr (fun _ => none))))))] ++ T_4) H_100 := hP_102
  clear hP_102
  have hD_106 : va_D A ([(h0, .inr (10, [.ref q1, .ref q2, .ref q3, .ref q4, .ref q5, .ref q6, .null, .null, .null, .null, .null, .int 0, .int 0, .int 0])), (q2, .inl (ta 5, 4, .inr (.inr (.inr (.inr (fun _ => none)))))), (q3, .inl (ta 6, 9, .inr (.inr (.inr (.inr (fun _ => none))))))] ++ T_4) := hD_103
  clear hD_103
  refine lv_aload_n hx hb di_Heap_65 rfl (lv_at hl 0 rfl) ?_
  refine va_new (ci := 4) (fs := [.null, .null, .null, .null, .null]) (C := RX4) (T := TX4) (N := 5) hx hb hts dh_u4 tyX4 tyX4_ok hown (hts (.classLink RX10 47 RX4) (dh_has_in (i := 304) (by decide +kernel))) (hts (.instantiable RX4 5) (dh_has_in (i := 305) (by decide +kernel))) (hts (.initialized RX4) (dh_has_in (i := 157) (by decide +kernel))) hK hP_105 hD_106 hS_104 hA rfl (by decide +kernel) (Nat.le_of_ble_eq_true rfl) (Nat.le_of_ble_eq_true rfl) di_Heap_66 (fun q7 H_107 hP_108 hD_109 hS_110 => ?_)
  clear hP_105 hD_106 hS_104
  refine lv_dup hx hb di_Heap_69 rfl ?_
  have hPc : va_P D vwCl [(q7, .inr (4, [.null, .null, .null, .null, .null]))] H_107 := dh_Pr hP_108
  have hDc : va_D A [(q7, .inr (4, [.null, .null, .null, .null, .null]))] := dh_Dr hD_109
  have hFc := dh_Fr (wc := [(q7, .inr (4, [.null, .null, .null, .null, .null]))]) hD_109 hS_110 hA
  refine va_callv (va_runIN (As := []) (rest := [.ref q7, .ref h0]) ⟨hx, hb, hml, hown, hts⟩ (k_Rivals l D ta q7 H_107.size) ⟨va_cnB (host := "DoubleHeap") 0 hts gwi_Rivals rfl rfl rfl (hN _ (dh_hasN_in (i := 306) (by decide +kernel) rfl)) (hts (.initialized RX4) (dh_has_in (i := 157) (by decide +kernel))) (by decide +kernel) ⟨Nat.le_of_ble_eq_true rfl, Nat.le_of_ble_eq_true rfl⟩, rfl, hts (.instanceMethod yi_Rivals) (dh_has_in (i := 307) (by decide +kernel))⟩ ⟨dh_Pi_blind, fun U hU hW => ⟨rfl, by rw [hU], by rw [hU]; exact hPc, va_K.moved hW.alike hK, hDc.weaken (fun _ _ _ _ => trivial), hN.warm hW, hO.moved hW.alike⟩⟩ rfl rfl hl.1 rfl (lv_room (Nat.le_of_ble_eq_true rfl)) di_Heap_70 ⟨Nat.le_of_ble_eq_true rfl, Nat.le_of_ble_eq_true rfl⟩) hS_110 (fun q _ h => hFc q h) hFc (fun u t H_112 locs_113 ht hvm hw hB hz1 hk1 hS_114 => ?_)
  clear hS_110
  obtain ⟨hPx, hDx⟩ := hB
  rw [ht] at hPx
  obtain ⟨fq7, rfl⟩ := dh_lenf hw
  obtain ⟨hP_115, hD_116⟩ := dh_joinA hP_108 hD_109 hk1 hFc hPx hDx
  clear hP_108 hD_109
  clear hPc hDc hFc hPx hDx hk1 hz1 hw ht hvm
  have hPj : va_P D vwCl ([(h0, .inr (10, [.ref q1, .ref q2, .ref q3, .ref q4, .ref q5, .ref q6, .null, .null, .null, .null, .null, .int 0, .int 0, .int 0])), (q2, .inl (ta 5, 4, .inr (.inr (.inr (.inr (fun _ => none)))))), (q3, .inl (ta 6, 9, .inr (.inr (.inr (.inr (fun _ => none))))))] ++ (T_4 ++ dh_sg ta sg_Rivals dh_z (q7 :: (List.range 5).map fq7))) H_112 := by rw [← List.append_assoc]; exact hP_115
  have hDj : va_D A ([(h0, .inr (10, [.ref q1, .ref q2, .ref q3, .ref q4, .ref q5, .ref q6, .null, .null, .null, .null, .null, .int 0, .int 0, .int 0])), (q2, .inl (ta 5, 4, .inr (.inr (.inr (.inr (fun _ => none)))))), (q3, .inl (ta 6, 9, .inr (.inr (.inr (.inr (fun _ => none))))))] ++ (T_4 ++ dh_sg ta sg_Rivals dh_z (q7 :: (List.range 5).map fq7))) := by rw [← List.append_assoc]; exact hD_116
  clear hP_115 hD_116
  obtain ⟨T_5, eT_5⟩ : ∃ z, z = T_4 ++ dh_sg ta sg_Rivals dh_z (q7 :: (List.range 5).map fq7) := ⟨_, rfl⟩
  rw [← eT_5] at hPj hDj
  have hlen_5 : T_5.length = 26 := by rw [eT_5, List.length_append, hlen_4]; rfl
  have hP_117 := hPj
  have hD_118 := hDj
  clear hPj hDj
  refine W.widen (k := 28) (n := 10046) (Nat.le_of_ble_eq_true rfl) (Nat.le_of_ble_eq_true rfl) ?_
  refine va_putF (D := D) (ci := 10) (v := .ref q7) (ty := .object "DoubleHeap$Rivals") (C := RX10) (T := TX10) (N := 14) hx hb hts dh_u10 tyX10 tyX10_ok nmX10 hown hK hP_117 hD_118 hS_114 0 rfl rfl 6 (by decide) (hts (.fieldLink RX10 50 RX10 "rivals" "LDoubleHeap$Rivals;") (dh_has_in (i := 423) (by decide +kernel))) (fun _ h9 => h9) rfl hin rfl (by decide +kernel) rfl rfl (Nat.le_of_ble_eq_true rfl) di_Heap_73 (fun H_119 locs_120 hP_121 hD_122 hS_123 => ?_)
  clear hP_117 hD_118 hS_114
  have hP_124 : va_P D vwCl ([(h0, .inr (10, [.ref q1, .ref q2, .ref q3, .ref q4, .ref q5, .ref q6, .ref q7, .null, .null, .null, .null, .int 0, .int 0, .int 0])), (q2, .inl (ta 5, 4, .inr (.inr (.inr (.inr (fun _ => none)))))), (q3, .inl (ta 6, 9, .inr (.inr (.inr (.inr (fun _ => none))))))] ++ T_5) H_119 := hP_121
  clear hP_121
  have hD_125 : va_D A ([(h0, .inr (10, [.ref q1, .ref q2, .ref q3, .ref q4, .ref q5, .ref q6, .ref q7, .null, .null, .null, .null, .int 0, .int 0, .int 0])), (q2, .inl (ta 5, 4, .inr (.inr (.inr (.inr (fun _ => none)))))), (q3, .inl (ta 6, 9, .inr (.inr (.inr (.inr (fun _ => none))))))] ++ T_5) := hD_122
  clear hD_122
  refine lv_aload_n hx hb di_Heap_76 rfl (lv_at hl 0 rfl) ?_
  refine va_new (ci := 3) (fs := [.null, .int 0, .null, .null, .null]) (C := RX3) (T := TX3) (N := 5) hx hb hts dh_u3 tyX3 tyX3_ok hown (hts (.classLink RX10 54 RX3) (dh_has_in (i := 326) (by decide +kernel))) (hts (.instantiable RX3 5) (dh_has_in (i := 327) (by decide +kernel))) (hts (.initialized RX3) (dh_has_in (i := 158) (by decide +kernel))) hK hP_124 hD_125 hS_123 hA rfl (by decide +kernel) (Nat.le_of_ble_eq_true rfl) (Nat.le_of_ble_eq_true rfl) di_Heap_77 (fun q8 H_126 hP_127 hD_128 hS_129 => ?_)
  clear hP_124 hD_125 hS_123
  refine lv_dup hx hb di_Heap_80 rfl ?_
  have hPc : va_P D vwCl [(q8, .inr (3, [.null, .int 0, .null, .null, .null]))] H_126 := dh_Pr hP_127
  have hDc : va_D A [(q8, .inr (3, [.null, .int 0, .null, .null, .null]))] := dh_Dr hD_128
  have hFc := dh_Fr (wc := [(q8, .inr (3, [.null, .int 0, .null, .null, .null]))]) hD_128 hS_129 hA
  refine va_callv (va_runIN (As := []) (rest := [.ref q8, .ref h0]) ⟨hx, hb, hml, hown, hts⟩ (k_Numbers l D ta q8 H_126.size) ⟨va_cnB (host := "DoubleHeap") 0 hts gwi_Numbers rfl rfl rfl (hN _ (dh_hasN_in (i := 328) (by decide +kernel) rfl)) (hts (.initialized RX3) (dh_has_in (i := 158) (by decide +kernel))) (by decide +kernel) ⟨Nat.le_of_ble_eq_true rfl, Nat.le_of_ble_eq_true rfl⟩, rfl, hts (.instanceMethod yi_Numbers) (dh_has_in (i := 329) (by decide +kernel))⟩ ⟨dh_Pi_blind, fun U hU hW => ⟨rfl, by rw [hU], by rw [hU]; exact hPc, va_K.moved hW.alike hK, hDc.weaken (fun _ _ _ _ => trivial), hN.warm hW, hO.moved hW.alike⟩⟩ rfl rfl hl.1 rfl (lv_room (Nat.le_of_ble_eq_true rfl)) di_Heap_81 ⟨Nat.le_of_ble_eq_true rfl, Nat.le_of_ble_eq_true rfl⟩) hS_129 (fun q _ h => hFc q h) hFc (fun u t H_131 locs_132 ht hvm hw hB hz1 hk1 hS_133 => ?_)
  clear hS_129
  obtain ⟨hPx, hDx⟩ := hB
  rw [ht] at hPx
  obtain ⟨fq8, rfl⟩ := dh_lenf hw
  obtain ⟨hP_134, hD_135⟩ := dh_joinA hP_127 hD_128 hk1 hFc hPx hDx
  clear hP_127 hD_128
  clear hPc hDc hFc hPx hDx hk1 hz1 hw ht hvm
  have hPj : va_P D vwCl ([(h0, .inr (10, [.ref q1, .ref q2, .ref q3, .ref q4, .ref q5, .ref q6, .ref q7, .null, .null, .null, .null, .int 0, .int 0, .int 0])), (q2, .inl (ta 5, 4, .inr (.inr (.inr (.inr (fun _ => none)))))), (q3, .inl (ta 6, 9, .inr (.inr (.inr (.inr (fun _ => none))))))] ++ (T_5 ++ dh_sg ta sg_Numbers dh_z (q8 :: (List.range 45).map fq8))) H_131 := by rw [← List.append_assoc]; exact hP_134
  have hDj : va_D A ([(h0, .inr (10, [.ref q1, .ref q2, .ref q3, .ref q4, .ref q5, .ref q6, .ref q7, .null, .null, .null, .null, .int 0, .int 0, .int 0])), (q2, .inl (ta 5, 4, .inr (.inr (.inr (.inr (fun _ => none)))))), (q3, .inl (ta 6, 9, .inr (.inr (.inr (.inr (fun _ => none))))))] ++ (T_5 ++ dh_sg ta sg_Numbers dh_z (q8 :: (List.range 45).map fq8))) := by rw [← List.append_assoc]; exact hD_135
  clear hP_134 hD_135
  obtain ⟨T_6, eT_6⟩ : ∃ z, z = T_5 ++ dh_sg ta sg_Numbers dh_z (q8 :: (List.range 45).map fq8) := ⟨_, rfl⟩
  rw [← eT_6] at hPj hDj
  have hlen_6 : T_6.length = 72 := by rw [eT_6, List.length_append, hlen_5]; rfl
  have hP_136 := hPj
  have hD_137 := hDj
  clear hPj hDj
  refine W.widen (k := 74) (n := 18439) (Nat.le_of_ble_eq_true rfl) (Nat.le_of_ble_eq_true rfl) ?_
  refine va_putF (D := D) (ci := 10) (v := .ref q8) (ty := .object "DoubleHeap$Numbers") (C := RX10) (T := TX10) (N := 14) hx hb hts dh_u10 tyX10 tyX10_ok nmX10 hown hK hP_136 hD_137 hS_133 0 rfl rfl 7 (by decide) (hts (.fieldLink RX10 57 RX10 "numbers" "LDoubleHeap$Numbers;") (dh_has_in (i := 424) (by decide +kernel))) (fun _ h9 => h9) rfl hin rfl (by decide +kernel) rfl rfl (Nat.le_of_ble_eq_true rfl) di_Heap_84 (fun H_138 locs_139 hP_140 hD_141 hS_142 => ?_)
  clear hP_136 hD_137 hS_133
  have hP_143 : va_P D vwCl ([(h0, .inr (10, [.ref q1, .ref q2, .ref q3, .ref q4, .ref q5, .ref q6, .ref q7, .ref q8, .null, .null, .null, .int 0, .int 0, .int 0])), (q2, .inl (ta 5, 4, .inr (.inr (.inr (.inr (fun _ => none)))))), (q3, .inl (ta 6, 9, .inr (.inr (.inr (.inr (fun _ => none))))))] ++ T_6) H_138 := hP_140
  clear hP_140
  have hD_144 : va_D A ([(h0, .inr (10, [.ref q1, .ref q2, .ref q3, .ref q4, .ref q5, .ref q6, .ref q7, .ref q8, .null, .null, .null, .int 0, .int 0, .int 0])), (q2, .inl (ta 5, 4, .inr (.inr (.inr (.inr (fun _ => none)))))), (q3, .inl (ta 6, 9, .inr (.inr (.inr (.inr (fun _ => none))))))] ++ T_6) := hD_141
  clear hD_141
  refine lv_aload_n hx hb di_Heap_87 rfl (lv_at hl 0 rfl) ?_
  refine va_new (ci := 0) (fs := [.int 0, .int 0]) (C := RX0) (T := TX0) (N := 2) hx hb hts dh_u0 tyX0 tyX0_ok hown (hts (.classLink RX10 61 RX0) (dh_has_in (i := 351) (by decide +kernel))) (hts (.instantiable RX0 2) (dh_has_in (i := 352) (by decide +kernel))) (hts (.initialized RX0) (dh_has_in (i := 159) (by decide +kernel))) hK hP_143 hD_144 hS_142 hA rfl (by decide +kernel) (Nat.le_of_ble_eq_true rfl) (Nat.le_of_ble_eq_true rfl) di_Heap_88 (fun q9 H_145 hP_146 hD_147 hS_148 => ?_)
  clear hP_143 hD_144 hS_142
  refine lv_dup hx hb di_Heap_91 rfl ?_
  have hPc : va_P D vwCl [(q9, .inr (0, [.int 0, .int 0]))] H_145 := dh_Pr hP_146
  have hDc : va_D A [(q9, .inr (0, [.int 0, .int 0]))] := dh_Dr hD_147
  have hFc := dh_Fr (wc := [(q9, .inr (0, [.int 0, .int 0]))]) hD_147 hS_148 hA
  refine va_callv (va_runIN (As := []) (rest := [.ref q9, .ref h0]) ⟨hx, hb, hml, hown, hts⟩ (k_Evening l D ta q9 H_145.size) ⟨va_cnB (host := "DoubleHeap") 0 hts gwi_Evening rfl rfl rfl (hN _ (dh_hasN_in (i := 353) (by decide +kernel) rfl)) (hts (.initialized RX0) (dh_has_in (i := 159) (by decide +kernel))) (by decide +kernel) ⟨Nat.le_of_ble_eq_true rfl, Nat.le_of_ble_eq_true rfl⟩, rfl, hts (.instanceMethod yi_Evening) (dh_has_in (i := 354) (by decide +kernel))⟩ ⟨dh_Pi_blind, fun U hU hW => ⟨rfl, by rw [hU], by rw [hU]; exact hPc, va_K.moved hW.alike hK, hDc.weaken (fun _ _ _ _ => trivial), hN.warm hW, hO.moved hW.alike⟩⟩ rfl rfl hl.1 rfl (lv_room (Nat.le_of_ble_eq_true rfl)) di_Heap_92 ⟨Nat.le_of_ble_eq_true rfl, Nat.le_of_ble_eq_true rfl⟩) hS_148 (fun q _ h => hFc q h) hFc (fun u t H_150 locs_151 ht hvm hw hB hz1 hk1 hS_152 => ?_)
  clear hS_148
  obtain ⟨hPx, hDx⟩ := hB
  rw [ht] at hPx
  obtain ⟨fq9, rfl⟩ := dh_lenf hw
  obtain ⟨hP_153, hD_154⟩ := dh_joinA hP_146 hD_147 hk1 hFc hPx hDx
  clear hP_146 hD_147
  clear hPc hDc hFc hPx hDx hk1 hz1 hw ht hvm
  have hPj : va_P D vwCl ([(h0, .inr (10, [.ref q1, .ref q2, .ref q3, .ref q4, .ref q5, .ref q6, .ref q7, .ref q8, .null, .null, .null, .int 0, .int 0, .int 0])), (q2, .inl (ta 5, 4, .inr (.inr (.inr (.inr (fun _ => none)))))), (q3, .inl (ta 6, 9, .inr (.inr (.inr (.inr (fun _ => none))))))] ++ (T_6 ++ dh_sg ta sg_Evening dh_z (q9 :: (List.range 0).map fq9))) H_150 := by rw [← List.append_assoc]; exact hP_153
  have hDj : va_D A ([(h0, .inr (10, [.ref q1, .ref q2, .ref q3, .ref q4, .ref q5, .ref q6, .ref q7, .ref q8, .null, .null, .null, .int 0, .int 0, .int 0])), (q2, .inl (ta 5, 4, .inr (.inr (.inr (.inr (fun _ => none)))))), (q3, .inl (ta 6, 9, .inr (.inr (.inr (.inr (fun _ => none))))))] ++ (T_6 ++ dh_sg ta sg_Evening dh_z (q9 :: (List.range 0).map fq9))) := by rw [← List.append_assoc]; exact hD_154
  clear hP_153 hD_154
  obtain ⟨T_7, eT_7⟩ : ∃ z, z = T_6 ++ dh_sg ta sg_Evening dh_z (q9 :: (List.range 0).map fq9) := ⟨_, rfl⟩
  rw [← eT_7] at hPj hDj
  have hlen_7 : T_7.length = 73 := by rw [eT_7, List.length_append, hlen_6]; rfl
  have hP_155 := hPj
  have hD_156 := hDj
  clear hPj hDj
  refine W.widen (k := 75) (n := 18441) (Nat.le_of_ble_eq_true rfl) (Nat.le_of_ble_eq_true rfl) ?_
  refine va_putF (D := D) (ci := 10) (v := .ref q9) (ty := .object "DoubleHeap$Evening") (C := RX10) (T := TX10) (N := 14) hx hb hts dh_u10 tyX10 tyX10_ok nmX10 hown hK hP_155 hD_156 hS_152 0 rfl rfl 8 (by decide) (hts (.fieldLink RX10 64 RX10 "evening" "LDoubleHeap$Evening;") (dh_has_in (i := 425) (by decide +kernel))) (fun _ h9 => h9) rfl hin rfl (by decide +kernel) rfl rfl (Nat.le_of_ble_eq_true rfl) di_Heap_95 (fun H_157 locs_158 hP_159 hD_160 hS_161 => ?_)
  clear hP_155 hD_156 hS_152
  have hP_162 : va_P D vwCl ([(h0, .inr (10, [.ref q1, .ref q2, .ref q3, .ref q4, .ref q5, .ref q6, .ref q7, .ref q8, .ref q9, .null, .null, .int 0, .int 0, .int 0])), (q2, .inl (ta 5, 4, .inr (.inr (.inr (.inr (fun _ => none)))))), (q3, .inl (ta 6, 9, .inr (.inr (.inr (.inr (fun _ => none))))))] ++ T_7) H_157 := hP_159
  clear hP_159
  have hD_163 : va_D A ([(h0, .inr (10, [.ref q1, .ref q2, .ref q3, .ref q4, .ref q5, .ref q6, .ref q7, .ref q8, .ref q9, .null, .null, .int 0, .int 0, .int 0])), (q2, .inl (ta 5, 4, .inr (.inr (.inr (.inr (fun _ => none)))))), (q3, .inl (ta 6, 9, .inr (.inr (.inr (.inr (fun _ => none))))))] ++ T_7) := hD_160
  clear hD_160
  refine lv_aload_n hx hb di_Heap_98 rfl (lv_at hl 0 rfl) ?_
  refine va_new (ci := 6) (fs := [.int 0, .int 0, .int 0, .int 0, .null]) (C := RX6) (T := TX6) (N := 5) hx hb hts dh_u6 tyX6 tyX6_ok hown (hts (.classLink RX10 68 RX6) (dh_has_in (i := 366) (by decide +kernel))) (hts (.instantiable RX6 5) (dh_has_in (i := 367) (by decide +kernel))) (hts (.initialized RX6) (dh_has_in (i := 160) (by decide +kernel))) hK hP_162 hD_163 hS_161 hA rfl (by decide +kernel) (Nat.le_of_ble_eq_true rfl) (Nat.le_of_ble_eq_true rfl) di_Heap_99 (fun q10 H_164 hP_165 hD_166 hS_167 => ?_)
  clear hP_162 hD_163 hS_161
  refine lv_dup hx hb di_Heap_102 rfl ?_
  have hPc : va_P D vwCl [(q10, .inr (6, [.int 0, .int 0, .int 0, .int 0, .null]))] H_164 := dh_Pr hP_165
  have hDc : va_D A [(q10, .inr (6, [.int 0, .int 0, .int 0, .int 0, .null]))] := dh_Dr hD_166
  have hFc := dh_Fr (wc := [(q10, .inr (6, [.int 0, .int 0, .int 0, .int 0, .null]))]) hD_166 hS_167 hA
  refine va_callv (va_runIN (As := []) (rest := [.ref q10, .ref h0]) ⟨hx, hb, hml, hown, hts⟩ (k_Stove l D ta q10 H_164.size) ⟨va_cnB (host := "DoubleHeap") 0 hts gwi_Stove rfl rfl rfl (hN _ (dh_hasN_in (i := 368) (by decide +kernel) rfl)) (hts (.initialized RX6) (dh_has_in (i := 160) (by decide +kernel))) (by decide +kernel) ⟨Nat.le_of_ble_eq_true rfl, Nat.le_of_ble_eq_true rfl⟩, rfl, hts (.instanceMethod yi_Stove) (dh_has_in (i := 369) (by decide +kernel))⟩ ⟨dh_Pi_blind, fun U hU hW => ⟨rfl, by rw [hU], by rw [hU]; exact hPc, va_K.moved hW.alike hK, hDc.weaken (fun _ _ _ _ => trivial), hN.warm hW, hO.moved hW.alike⟩⟩ rfl rfl hl.1 rfl (lv_room (Nat.le_of_ble_eq_true rfl)) di_Heap_103 ⟨Nat.le_of_ble_eq_true rfl, Nat.le_of_ble_eq_true rfl⟩) hS_167 (fun q _ h => hFc q h) hFc (fun u t H_169 locs_170 ht hvm hw hB hz1 hk1 hS_171 => ?_)
  clear hS_167
  obtain ⟨hPx, hDx⟩ := hB
  rw [ht] at hPx
  obtain ⟨fq10, rfl⟩ := dh_lenf hw
  obtain ⟨hP_172, hD_173⟩ := dh_joinA hP_165 hD_166 hk1 hFc hPx hDx
  clear hP_165 hD_166
  clear hPc hDc hFc hPx hDx hk1 hz1 hw ht hvm
  have hPj : va_P D vwCl ([(h0, .inr (10, [.ref q1, .ref q2, .ref q3, .ref q4, .ref q5, .ref q6, .ref q7, .ref q8, .ref q9, .null, .null, .int 0, .int 0, .int 0])), (q2, .inl (ta 5, 4, .inr (.inr (.inr (.inr (fun _ => none)))))), (q3, .inl (ta 6, 9, .inr (.inr (.inr (.inr (fun _ => none))))))] ++ (T_7 ++ dh_sg ta sg_Stove dh_z (q10 :: (List.range 1).map fq10))) H_169 := by rw [← List.append_assoc]; exact hP_172
  have hDj : va_D A ([(h0, .inr (10, [.ref q1, .ref q2, .ref q3, .ref q4, .ref q5, .ref q6, .ref q7, .ref q8, .ref q9, .null, .null, .int 0, .int 0, .int 0])), (q2, .inl (ta 5, 4, .inr (.inr (.inr (.inr (fun _ => none)))))), (q3, .inl (ta 6, 9, .inr (.inr (.inr (.inr (fun _ => none))))))] ++ (T_7 ++ dh_sg ta sg_Stove dh_z (q10 :: (List.range 1).map fq10))) := by rw [← List.append_assoc]; exact hD_173
  clear hP_172 hD_173
  obtain ⟨T_8, eT_8⟩ : ∃ z, z = T_7 ++ dh_sg ta sg_Stove dh_z (q10 :: (List.range 1).map fq10) := ⟨_, rfl⟩
  rw [← eT_8] at hPj hDj
  have hlen_8 : T_8.length = 75 := by rw [eT_8, List.length_append, hlen_7]; rfl
  have hP_174 := hPj
  have hD_175 := hDj
  clear hPj hDj
  refine W.widen (k := 77) (n := 18486) (Nat.le_of_ble_eq_true rfl) (Nat.le_of_ble_eq_true rfl) ?_
  refine va_putF (D := D) (ci := 10) (v := .ref q10) (ty := .object "DoubleHeap$Stove") (C := RX10) (T := TX10) (N := 14) hx hb hts dh_u10 tyX10 tyX10_ok nmX10 hown hK hP_174 hD_175 hS_171 0 rfl rfl 9 (by decide) (hts (.fieldLink RX10 71 RX10 "stove" "LDoubleHeap$Stove;") (dh_has_in (i := 426) (by decide +kernel))) (fun _ h9 => h9) rfl hin rfl (by decide +kernel) rfl rfl (Nat.le_of_ble_eq_true rfl) di_Heap_106 (fun H_176 locs_177 hP_178 hD_179 hS_180 => ?_)
  clear hP_174 hD_175 hS_171
  have hP_181 : va_P D vwCl ([(h0, .inr (10, [.ref q1, .ref q2, .ref q3, .ref q4, .ref q5, .ref q6, .ref q7, .ref q8, .ref q9, .ref q10, .null, .int 0, .int 0, .int 0])), (q2, .inl (ta 5, 4, .inr (.inr (.inr (.inr (fun _ => none)))))), (q3, .inl (ta 6, 9, .inr (.inr (.inr (.inr (fun _ => none))))))] ++ T_8) H_176 := hP_178
  clear hP_178
  have hD_182 : va_D A ([(h0, .inr (10, [.ref q1, .ref q2, .ref q3, .ref q4, .ref q5, .ref q6, .ref q7, .ref q8, .ref q9, .ref q10, .null, .int 0, .int 0, .int 0])), (q2, .inl (ta 5, 4, .inr (.inr (.inr (.inr (fun _ => none)))))), (q3, .inl (ta 6, 9, .inr (.inr (.inr (.inr (fun _ => none))))))] ++ T_8) := hD_179
  clear hD_179
  refine lv_aload_n hx hb di_Heap_109 rfl (lv_at hl 0 rfl) ?_
  refine va_new (ci := 6) (fs := [.int 0, .int 0, .int 0, .int 0, .null]) (C := RX6) (T := TX6) (N := 5) hx hb hts dh_u6 tyX6 tyX6_ok hown (hts (.classLink RX10 68 RX6) (dh_has_in (i := 366) (by decide +kernel))) (hts (.instantiable RX6 5) (dh_has_in (i := 367) (by decide +kernel))) (hts (.initialized RX6) (dh_has_in (i := 160) (by decide +kernel))) hK hP_181 hD_182 hS_180 hA rfl (by decide +kernel) (Nat.le_of_ble_eq_true rfl) (Nat.le_of_ble_eq_true rfl) di_Heap_110 (fun q11 H_183 hP_184 hD_185 hS_186 => ?_)
  clear hP_181 hD_182 hS_180
  refine lv_dup hx hb di_Heap_113 rfl ?_
  have hPc : va_P D vwCl [(q11, .inr (6, [.int 0, .int 0, .int 0, .int 0, .null]))] H_183 := dh_Pr hP_184
  have hDc : va_D A [(q11, .inr (6, [.int 0, .int 0, .int 0, .int 0, .null]))] := dh_Dr hD_185
  have hFc := dh_Fr (wc := [(q11, .inr (6, [.int 0, .int 0, .int 0, .int 0, .null]))]) hD_185 hS_186 hA
  refine va_callv (va_runIN (As := []) (rest := [.ref q11, .ref h0]) ⟨hx, hb, hml, hown, hts⟩ (k_Stove l D ta q11 H_183.size) ⟨va_cnB (host := "DoubleHeap") 0 hts gwi_Stove rfl rfl rfl (hN _ (dh_hasN_in (i := 368) (by decide +kernel) rfl)) (hts (.initialized RX6) (dh_has_in (i := 160) (by decide +kernel))) (by decide +kernel) ⟨Nat.le_of_ble_eq_true rfl, Nat.le_of_ble_eq_true rfl⟩, rfl, hts (.instanceMethod yi_Stove) (dh_has_in (i := 369) (by decide +kernel))⟩ ⟨dh_Pi_blind, fun U hU hW => ⟨rfl, by rw [hU], by rw [hU]; exact hPc, va_K.moved hW.alike hK, hDc.weaken (fun _ _ _ _ => trivial), hN.warm hW, hO.moved hW.alike⟩⟩ rfl rfl hl.1 rfl (lv_room (Nat.le_of_ble_eq_true rfl)) di_Heap_114 ⟨Nat.le_of_ble_eq_true rfl, Nat.le_of_ble_eq_true rfl⟩) hS_186 (fun q _ h => hFc q h) hFc (fun u t H_188 locs_189 ht hvm hw hB hz1 hk1 hS_190 => ?_)
  clear hS_186
  obtain ⟨hPx, hDx⟩ := hB
  rw [ht] at hPx
  obtain ⟨fq11, rfl⟩ := dh_lenf hw
  obtain ⟨hP_191, hD_192⟩ := dh_joinA hP_184 hD_185 hk1 hFc hPx hDx
  clear hP_184 hD_185
  clear hPc hDc hFc hPx hDx hk1 hz1 hw ht hvm
  have hPj : va_P D vwCl ([(h0, .inr (10, [.ref q1, .ref q2, .ref q3, .ref q4, .ref q5, .ref q6, .ref q7, .ref q8, .ref q9, .ref q10, .null, .int 0, .int 0, .int 0])), (q2, .inl (ta 5, 4, .inr (.inr (.inr (.inr (fun _ => none)))))), (q3, .inl (ta 6, 9, .inr (.inr (.inr (.inr (fun _ => none))))))] ++ (T_8 ++ dh_sg ta sg_Stove dh_z (q11 :: (List.range 1).map fq11))) H_188 := by rw [← List.append_assoc]; exact hP_191
  have hDj : va_D A ([(h0, .inr (10, [.ref q1, .ref q2, .ref q3, .ref q4, .ref q5, .ref q6, .ref q7, .ref q8, .ref q9, .ref q10, .null, .int 0, .int 0, .int 0])), (q2, .inl (ta 5, 4, .inr (.inr (.inr (.inr (fun _ => none)))))), (q3, .inl (ta 6, 9, .inr (.inr (.inr (.inr (fun _ => none))))))] ++ (T_8 ++ dh_sg ta sg_Stove dh_z (q11 :: (List.range 1).map fq11))) := by rw [← List.append_assoc]; exact hD_192
  clear hP_191 hD_192
  obtain ⟨T_9, eT_9⟩ : ∃ z, z = T_8 ++ dh_sg ta sg_Stove dh_z (q11 :: (List.range 1).map fq11) := ⟨_, rfl⟩
  rw [← eT_9] at hPj hDj
  have hlen_9 : T_9.length = 77 := by rw [eT_9, List.length_append, hlen_8]; rfl
  have hP_193 := hPj
  have hD_194 := hDj
  clear hPj hDj
  refine W.widen (k := 79) (n := 18531) (Nat.le_of_ble_eq_true rfl) (Nat.le_of_ble_eq_true rfl) ?_
  refine va_putF (D := D) (ci := 10) (v := .ref q11) (ty := .object "DoubleHeap$Stove") (C := RX10) (T := TX10) (N := 14) hx hb hts dh_u10 tyX10 tyX10_ok nmX10 hown hK hP_193 hD_194 hS_190 0 rfl rfl 10 (by decide) (hts (.fieldLink RX10 75 RX10 "keptStove" "LDoubleHeap$Stove;") (dh_has_in (i := 427) (by decide +kernel))) (fun _ h9 => h9) rfl hin rfl (by decide +kernel) rfl rfl (Nat.le_of_ble_eq_true rfl) di_Heap_117 (fun H_195 locs_196 hP_197 hD_198 hS_199 => ?_)
  clear hP_193 hD_194 hS_190
  have hP_200 : va_P D vwCl ([(h0, .inr (10, [.ref q1, .ref q2, .ref q3, .ref q4, .ref q5, .ref q6, .ref q7, .ref q8, .ref q9, .ref q10, .ref q11, .int 0, .int 0, .int 0])), (q2, .inl (ta 5, 4, .inr (.inr (.inr (.inr (fun _ => none)))))), (q3, .inl (ta 6, 9, .inr (.inr (.inr (.inr (fun _ => none))))))] ++ T_9) H_195 := hP_197
  clear hP_197
  have hD_201 : va_D A ([(h0, .inr (10, [.ref q1, .ref q2, .ref q3, .ref q4, .ref q5, .ref q6, .ref q7, .ref q8, .ref q9, .ref q10, .ref q11, .int 0, .int 0, .int 0])), (q2, .inl (ta 5, 4, .inr (.inr (.inr (.inr (fun _ => none)))))), (q3, .inl (ta 6, 9, .inr (.inr (.inr (.inr (fun _ => none))))))] ++ T_9) := hD_198
  clear hD_198
  refine lv_aload_n hx hb di_Heap_120 rfl (lv_at hl 0 rfl) ?_
  refine lv_iconst (v := 0) hx hb di_Heap_121 (by decide) ?_
  refine va_put (D := D) (ci := 10) (v := .int 0) (ty := .boolean) (C := RX10) (T := TX10) (N := 14) hx hb hts dh_u10 tyX10 tyX10_ok nmX10 hown hK hP_200 hD_201 hS_199 0 rfl rfl 11 (by decide) (hts (.fieldLink RX10 78 RX10 "wasKept" "Z") (dh_has_in (i := 428) (by decide +kernel))) (fun _ h9 => h9) rfl (by decide +kernel) rfl rfl (Nat.le_of_ble_eq_true rfl) di_Heap_122 (fun H_202 locs_203 hP_204 hD_205 hS_206 => ?_)
  clear hP_200 hD_201 hS_199
  have hP_207 : va_P D vwCl ([(h0, .inr (10, [.ref q1, .ref q2, .ref q3, .ref q4, .ref q5, .ref q6, .ref q7, .ref q8, .ref q9, .ref q10, .ref q11, .int 0, .int 0, .int 0])), (q2, .inl (ta 5, 4, .inr (.inr (.inr (.inr (fun _ => none)))))), (q3, .inl (ta 6, 9, .inr (.inr (.inr (.inr (fun _ => none))))))] ++ T_9) H_202 := hP_204
  clear hP_204
  have hD_208 : va_D A ([(h0, .inr (10, [.ref q1, .ref q2, .ref q3, .ref q4, .ref q5, .ref q6, .ref q7, .ref q8, .ref q9, .ref q10, .ref q11, .int 0, .int 0, .int 0])), (q2, .inl (ta 5, 4, .inr (.inr (.inr (.inr (fun _ => none)))))), (q3, .inl (ta 6, 9, .inr (.inr (.inr (.inr (fun _ => none))))))] ++ T_9) := hD_205
  clear hD_205
  refine lv_aload_n hx hb di_Heap_125 rfl (lv_at hl 0 rfl) ?_
  refine lv_iconst (v := 1) hx hb di_Heap_126 (by decide) ?_
  refine va_put (D := D) (ci := 10) (v := .int 1) (ty := .int) (C := RX10) (T := TX10) (N := 14) hx hb hts dh_u10 tyX10 tyX10_ok nmX10 hown hK hP_207 hD_208 hS_206 0 rfl rfl 12 (by decide) (hts (.fieldLink RX10 82 RX10 "draw" "I") (dh_has_in (i := 429) (by decide +kernel))) (fun _ h9 => h9) rfl (by decide +kernel) rfl rfl (Nat.le_of_ble_eq_true rfl) di_Heap_127 (fun H_209 locs_210 hP_211 hD_212 hS_213 => ?_)
  clear hP_207 hD_208 hS_206
  have hP_214 : va_P D vwCl ([(h0, .inr (10, [.ref q1, .ref q2, .ref q3, .ref q4, .ref q5, .ref q6, .ref q7, .ref q8, .ref q9, .ref q10, .ref q11, .int 0, .int 1, .int 0])), (q2, .inl (ta 5, 4, .inr (.inr (.inr (.inr (fun _ => none)))))), (q3, .inl (ta 6, 9, .inr (.inr (.inr (.inr (fun _ => none))))))] ++ T_9) H_209 := hP_211
  clear hP_211
  have hD_215 : va_D A ([(h0, .inr (10, [.ref q1, .ref q2, .ref q3, .ref q4, .ref q5, .ref q6, .ref q7, .ref q8, .ref q9, .ref q10, .ref q11, .int 0, .int 1, .int 0])), (q2, .inl (ta 5, 4, .inr (.inr (.inr (.inr (fun _ => none)))))), (q3, .inl (ta 6, 9, .inr (.inr (.inr (.inr (fun _ => none))))))] ++ T_9) := hD_212
  clear hD_212
  refine lv_aload_n hx hb di_Heap_130 rfl (lv_at hl 0 rfl) ?_
  refine lv_iconst (v := 1) hx hb di_Heap_131 (by decide) ?_
  refine va_put (D := D) (ci := 10) (v := .int 1) (ty := .int) (C := RX10) (T := TX10) (N := 14) hx hb hts dh_u10 tyX10 tyX10_ok nmX10 hown hK hP_214 hD_215 hS_213 0 rfl rfl 13 (by decide) (hts (.fieldLink RX10 86 RX10 "keptDraw" "I") (dh_has_in (i := 430) (by decide +kernel))) (fun _ h9 => h9) rfl (by decide +kernel) rfl rfl (Nat.le_of_ble_eq_true rfl) di_Heap_132 (fun H_216 locs_217 hP_218 hD_219 hS_220 => ?_)
  clear hP_214 hD_215 hS_213
  have hP_221 : va_P D vwCl ([(h0, .inr (10, [.ref q1, .ref q2, .ref q3, .ref q4, .ref q5, .ref q6, .ref q7, .ref q8, .ref q9, .ref q10, .ref q11, .int 0, .int 1, .int 1])), (q2, .inl (ta 5, 4, .inr (.inr (.inr (.inr (fun _ => none)))))), (q3, .inl (ta 6, 9, .inr (.inr (.inr (.inr (fun _ => none))))))] ++ T_9) H_216 := hP_218
  clear hP_218
  have hD_222 : va_D A ([(h0, .inr (10, [.ref q1, .ref q2, .ref q3, .ref q4, .ref q5, .ref q6, .ref q7, .ref q8, .ref q9, .ref q10, .ref q11, .int 0, .int 1, .int 1])), (q2, .inl (ta 5, 4, .inr (.inr (.inr (.inr (fun _ => none)))))), (q3, .inl (ta 6, 9, .inr (.inr (.inr (.inr (fun _ => none))))))] ++ T_9) := hD_219
  clear hD_219
  refine lv_iconst (v := 0) hx hb di_Heap_135 (by decide) ?_
  refine lv_istore_n (lv' := [(1, .int 0), (0, .ref h0)]) hx hb di_Heap_136 rfl hl (by decide) rfl (fun ls hl => ?_)
  refine lv_iload_n hx hb di_Heap_137 rfl (lv_at hl 0 rfl) ?_
  refine lv_iconst (v := 4) hx hb di_Heap_138 (by decide) ?_
  refine lv_icmp_ge (tgt := 161) hx hb di_Heap_139 (by decide) (fun c9 => absurd c9 (by decide)) (fun c9 => ?_)
  clear c9
  refine lv_aload_n hx hb di_Heap_142 rfl (lv_at hl 1 rfl) ?_
  refine va_get (D := D) (ci := 10) (v := .ref q2) (C := RX10) (T := TX10) (N := 14) hx hb hts dh_u10 hown hK hP_221 0 rfl rfl 1 (by decide) (hts (.fieldLink RX10 18 RX10 "laws" "[LDoubleHeap$Law;") (dh_has_in (i := 418) (by decide +kernel))) (fun _ h9 => h9) rfl di_Heap_143 ?_
  refine lv_iload_n hx hb di_Heap_146 rfl (lv_at hl 0 rfl) ?_
  refine va_new (ci := 1) (fs := [.null, .int 0, .null, .null, .int 0]) (C := RX1) (T := TX1) (N := 5) hx hb hts dh_u1 tyX1 tyX1_ok hown (hts (.classLink RX10 16 RX1) (dh_has_in (i := 190) (by decide +kernel))) (hts (.instantiable RX1 5) (dh_has_in (i := 392) (by decide +kernel))) (hts (.initialized RX1) (dh_has_in (i := 161) (by decide +kernel))) hK hP_221 hD_222 hS_220 hA rfl (by decide +kernel) (Nat.le_of_ble_eq_true rfl) (Nat.le_of_ble_eq_true rfl) di_Heap_147 (fun q12 H_223 hP_224 hD_225 hS_226 => ?_)
  clear hP_221 hD_222 hS_220
  refine lv_dup hx hb di_Heap_150 rfl ?_
  have hPc : va_P D vwCl [(q12, .inr (1, [.null, .int 0, .null, .null, .int 0]))] H_223 := dh_Pr hP_224
  have hDc : va_D A [(q12, .inr (1, [.null, .int 0, .null, .null, .int 0]))] := dh_Dr hD_225
  have hFc := dh_Fr (wc := [(q12, .inr (1, [.null, .int 0, .null, .null, .int 0]))]) hD_225 hS_226 hA
  refine va_callv (va_runIN (As := []) (rest := [.ref q12, .int 0, .ref q2]) ⟨hx, hb, hml, hown, hts⟩ (k_Law l D ta q12 H_223.size) ⟨va_cnB (host := "DoubleHeap") 0 hts gwi_Law rfl rfl rfl (hN _ (dh_hasN_in (i := 393) (by decide +kernel) rfl)) (hts (.initialized RX1) (dh_has_in (i := 161) (by decide +kernel))) (by decide +kernel) ⟨Nat.le_of_ble_eq_true rfl, Nat.le_of_ble_eq_true rfl⟩, rfl, hts (.instanceMethod yi_Law) (dh_has_in (i := 394) (by decide +kernel))⟩ ⟨dh_Pi_blind, fun U hU hW => ⟨rfl, by rw [hU], by rw [hU]; exact hPc, va_K.moved hW.alike hK, hDc.weaken (fun _ _ _ _ => trivial), hN.warm hW, hO.moved hW.alike⟩⟩ rfl rfl hl.1 rfl (lv_room (Nat.le_of_ble_eq_true rfl)) di_Heap_151 ⟨Nat.le_of_ble_eq_true rfl, Nat.le_of_ble_eq_true rfl⟩) hS_226 (fun q _ h => hFc q h) hFc (fun u t H_228 locs_229 ht hvm hw hB hz1 hk1 hS_230 => ?_)
  clear hS_226
  obtain ⟨hPx, hDx⟩ := hB
  rw [ht] at hPx
  obtain ⟨fq12, rfl⟩ := dh_lenf hw
  obtain ⟨hP_231, hD_232⟩ := dh_joinA hP_224 hD_225 hk1 hFc hPx hDx
  clear hP_224 hD_225
  clear hPc hDc hFc hPx hDx hk1 hz1 hw ht hvm
  have hPj : va_P D vwCl ([(h0, .inr (10, [.ref q1, .ref q2, .ref q3, .ref q4, .ref q5, .ref q6, .ref q7, .ref q8, .ref q9, .ref q10, .ref q11, .int 0, .int 1, .int 1])), (q2, .inl (ta 5, 4, .inr (.inr (.inr (.inr (fun _ => none)))))), (q3, .inl (ta 6, 9, .inr (.inr (.inr (.inr (fun _ => none))))))] ++ (T_9 ++ dh_sg ta sg_Law dh_z (q12 :: (List.range 9).map fq12))) H_228 := by rw [← List.append_assoc]; exact hP_231
  have hDj : va_D A ([(h0, .inr (10, [.ref q1, .ref q2, .ref q3, .ref q4, .ref q5, .ref q6, .ref q7, .ref q8, .ref q9, .ref q10, .ref q11, .int 0, .int 1, .int 1])), (q2, .inl (ta 5, 4, .inr (.inr (.inr (.inr (fun _ => none)))))), (q3, .inl (ta 6, 9, .inr (.inr (.inr (.inr (fun _ => none))))))] ++ (T_9 ++ dh_sg ta sg_Law dh_z (q12 :: (List.range 9).map fq12))) := by rw [← List.append_assoc]; exact hD_232
  clear hP_231 hD_232
  obtain ⟨T_10, eT_10⟩ : ∃ z, z = T_9 ++ dh_sg ta sg_Law dh_z (q12 :: (List.range 9).map fq12) := ⟨_, rfl⟩
  rw [← eT_10] at hPj hDj
  have hlen_10 : T_10.length = 87 := by rw [eT_10, List.length_append, hlen_9]; rfl
  have hP_233 := hPj
  have hD_234 := hDj
  clear hPj hDj
  refine W.widen (k := 89) (n := 20636) (Nat.le_of_ble_eq_true rfl) (Nat.le_of_ble_eq_true rfl) ?_
  obtain ⟨vs, rr, ehd⟩ := dh_hd_Law ta q12 ((List.range 9).map fq12)
  have hvv : ([(h0, .inr (10, [.ref q1, .ref q2, .ref q3, .ref q4, .ref q5, .ref q6, .ref q7, .ref q8, .ref q9, .ref q10, .ref q11, .int 0, .int 1, .int 1])), (q2, .inl (ta 5, 4, .inr (.inr (.inr (.inr (fun _ => none)))))), (q3, .inl (ta 6, 9, .inr (.inr (.inr (.inr (fun _ => none))))))] ++ T_10)[3 + 77]? = some (q12, .inr (1, vs)) := by rw [eT_10, ehd]; exact dh_at3 hlen_9
  refine va_astq (D := D) (r := (RX1, TX1, 5)) hx hb hK hP_233 hD_234 hS_230 1 4 (3 + 77) 1 rfl rfl hvv rfl (i := 0) (vp_in_iff.mpr (by decide)) di_Heap_154 (fun H_235 locs_236 hP_237 hD_238 hS_239 => ?_)
  clear hP_233 hD_234 hS_230
  clear hvv ehd
  have hP_240 : va_P D vwCl ([(h0, .inr (10, [.ref q1, .ref q2, .ref q3, .ref q4, .ref q5, .ref q6, .ref q7, .ref q8, .ref q9, .ref q10, .ref q11, .int 0, .int 1, .int 1])), (q2, .inl (ta 5, 4, .inr (.inr (.inr (.inr (va_up (fun _ => none) 0 (some q12))))))), (q3, .inl (ta 6, 9, .inr (.inr (.inr (.inr (fun _ => none))))))] ++ T_10) H_235 := hP_237
  clear hP_237
  have hD_241 : va_D A ([(h0, .inr (10, [.ref q1, .ref q2, .ref q3, .ref q4, .ref q5, .ref q6, .ref q7, .ref q8, .ref q9, .ref q10, .ref q11, .int 0, .int 1, .int 1])), (q2, .inl (ta 5, 4, .inr (.inr (.inr (.inr (va_up (fun _ => none) 0 (some q12))))))), (q3, .inl (ta 6, 9, .inr (.inr (.inr (.inr (fun _ => none))))))] ++ T_10) := hD_238
  clear hD_238
  refine lv_iinc (v := 1) (lv' := [(1, .int 1), (0, .ref h0)]) hx hb di_Heap_155 hl (k := 0) rfl (by decide) (by decide) rfl (fun ls hl => ?_)
  refine lv_goto (tgt := 137) hx hb di_Heap_158 (by decide) ?_
  refine lv_iload_n hx hb di_Heap_137 rfl (lv_at hl 0 rfl) ?_
  refine lv_iconst (v := 4) hx hb di_Heap_138 (by decide) ?_
  refine lv_icmp_ge (tgt := 161) hx hb di_Heap_139 (by decide) (fun c9 => absurd c9 (by decide)) (fun c9 => ?_)
  clear c9
  refine lv_aload_n hx hb di_Heap_142 rfl (lv_at hl 1 rfl) ?_
  refine va_get (D := D) (ci := 10) (v := .ref q2) (C := RX10) (T := TX10) (N := 14) hx hb hts dh_u10 hown hK hP_240 0 rfl rfl 1 (by decide) (hts (.fieldLink RX10 18 RX10 "laws" "[LDoubleHeap$Law;") (dh_has_in (i := 418) (by decide +kernel))) (fun _ h9 => h9) rfl di_Heap_143 ?_
  refine lv_iload_n hx hb di_Heap_146 rfl (lv_at hl 0 rfl) ?_
  refine va_new (ci := 1) (fs := [.null, .int 0, .null, .null, .int 0]) (C := RX1) (T := TX1) (N := 5) hx hb hts dh_u1 tyX1 tyX1_ok hown (hts (.classLink RX10 16 RX1) (dh_has_in (i := 190) (by decide +kernel))) (hts (.instantiable RX1 5) (dh_has_in (i := 392) (by decide +kernel))) (hts (.initialized RX1) (dh_has_in (i := 161) (by decide +kernel))) hK hP_240 hD_241 hS_239 hA rfl (by decide +kernel) (Nat.le_of_ble_eq_true rfl) (Nat.le_of_ble_eq_true rfl) di_Heap_147 (fun q13 H_242 hP_243 hD_244 hS_245 => ?_)
  clear hP_240 hD_241 hS_239
  refine lv_dup hx hb di_Heap_150 rfl ?_
  have hPc : va_P D vwCl [(q13, .inr (1, [.null, .int 0, .null, .null, .int 0]))] H_242 := dh_Pr hP_243
  have hDc : va_D A [(q13, .inr (1, [.null, .int 0, .null, .null, .int 0]))] := dh_Dr hD_244
  have hFc := dh_Fr (wc := [(q13, .inr (1, [.null, .int 0, .null, .null, .int 0]))]) hD_244 hS_245 hA
  refine va_callv (va_runIN (As := []) (rest := [.ref q13, .int 1, .ref q2]) ⟨hx, hb, hml, hown, hts⟩ (k_Law l D ta q13 H_242.size) ⟨va_cnB (host := "DoubleHeap") 0 hts gwi_Law rfl rfl rfl (hN _ (dh_hasN_in (i := 393) (by decide +kernel) rfl)) (hts (.initialized RX1) (dh_has_in (i := 161) (by decide +kernel))) (by decide +kernel) ⟨Nat.le_of_ble_eq_true rfl, Nat.le_of_ble_eq_true rfl⟩, rfl, hts (.instanceMethod yi_Law) (dh_has_in (i := 394) (by decide +kernel))⟩ ⟨dh_Pi_blind, fun U hU hW => ⟨rfl, by rw [hU], by rw [hU]; exact hPc, va_K.moved hW.alike hK, hDc.weaken (fun _ _ _ _ => trivial), hN.warm hW, hO.moved hW.alike⟩⟩ rfl rfl hl.1 rfl (lv_room (Nat.le_of_ble_eq_true rfl)) di_Heap_151 ⟨Nat.le_of_ble_eq_true rfl, Nat.le_of_ble_eq_true rfl⟩) hS_245 (fun q _ h => hFc q h) hFc (fun u t H_247 locs_248 ht hvm hw hB hz1 hk1 hS_249 => ?_)
  clear hS_245
  obtain ⟨hPx, hDx⟩ := hB
  rw [ht] at hPx
  obtain ⟨fq13, rfl⟩ := dh_lenf hw
  obtain ⟨hP_250, hD_251⟩ := dh_joinA hP_243 hD_244 hk1 hFc hPx hDx
  clear hP_243 hD_244
  clear hPc hDc hFc hPx hDx hk1 hz1 hw ht hvm
  have hPj : va_P D vwCl ([(h0, .inr (10, [.ref q1, .ref q2, .ref q3, .ref q4, .ref q5, .ref q6, .ref q7, .ref q8, .ref q9, .ref q10, .ref q11, .int 0, .int 1, .int 1])), (q2, .inl (ta 5, 4, .inr (.inr (.inr (.inr (va_up (fun _ => none) 0 (some q12))))))), (q3, .inl (ta 6, 9, .inr (.inr (.inr (.inr (fun _ => none))))))] ++ (T_10 ++ dh_sg ta sg_Law dh_z (q13 :: (List.range 9).map fq13))) H_247 := by rw [← List.append_assoc]; exact hP_250
  have hDj : va_D A ([(h0, .inr (10, [.ref q1, .ref q2, .ref q3, .ref q4, .ref q5, .ref q6, .ref q7, .ref q8, .ref q9, .ref q10, .ref q11, .int 0, .int 1, .int 1])), (q2, .inl (ta 5, 4, .inr (.inr (.inr (.inr (va_up (fun _ => none) 0 (some q12))))))), (q3, .inl (ta 6, 9, .inr (.inr (.inr (.inr (fun _ => none))))))] ++ (T_10 ++ dh_sg ta sg_Law dh_z (q13 :: (List.range 9).map fq13))) := by rw [← List.append_assoc]; exact hD_251
  clear hP_250 hD_251
  obtain ⟨T_11, eT_11⟩ : ∃ z, z = T_10 ++ dh_sg ta sg_Law dh_z (q13 :: (List.range 9).map fq13) := ⟨_, rfl⟩
  rw [← eT_11] at hPj hDj
  have hlen_11 : T_11.length = 97 := by rw [eT_11, List.length_append, hlen_10]; rfl
  have hP_252 := hPj
  have hD_253 := hDj
  clear hPj hDj
  refine W.widen (k := 99) (n := 22741) (Nat.le_of_ble_eq_true rfl) (Nat.le_of_ble_eq_true rfl) ?_
  obtain ⟨vs, rr, ehd⟩ := dh_hd_Law ta q13 ((List.range 9).map fq13)
  have hvv : ([(h0, .inr (10, [.ref q1, .ref q2, .ref q3, .ref q4, .ref q5, .ref q6, .ref q7, .ref q8, .ref q9, .ref q10, .ref q11, .int 0, .int 1, .int 1])), (q2, .inl (ta 5, 4, .inr (.inr (.inr (.inr (va_up (fun _ => none) 0 (some q12))))))), (q3, .inl (ta 6, 9, .inr (.inr (.inr (.inr (fun _ => none))))))] ++ T_11)[3 + 87]? = some (q13, .inr (1, vs)) := by rw [eT_11, ehd]; exact dh_at3 hlen_10
  refine va_astq (D := D) (r := (RX1, TX1, 5)) hx hb hK hP_252 hD_253 hS_249 1 4 (3 + 87) 1 rfl rfl hvv rfl (i := 1) (vp_in_iff.mpr (by decide)) di_Heap_154 (fun H_254 locs_255 hP_256 hD_257 hS_258 => ?_)
  clear hP_252 hD_253 hS_249
  clear hvv ehd
  have hP_259 : va_P D vwCl ([(h0, .inr (10, [.ref q1, .ref q2, .ref q3, .ref q4, .ref q5, .ref q6, .ref q7, .ref q8, .ref q9, .ref q10, .ref q11, .int 0, .int 1, .int 1])), (q2, .inl (ta 5, 4, .inr (.inr (.inr (.inr (va_up (va_up (fun _ => none) 0 (some q12)) 1 (some q13))))))), (q3, .inl (ta 6, 9, .inr (.inr (.inr (.inr (fun _ => none))))))] ++ T_11) H_254 := hP_256
  clear hP_256
  have hD_260 : va_D A ([(h0, .inr (10, [.ref q1, .ref q2, .ref q3, .ref q4, .ref q5, .ref q6, .ref q7, .ref q8, .ref q9, .ref q10, .ref q11, .int 0, .int 1, .int 1])), (q2, .inl (ta 5, 4, .inr (.inr (.inr (.inr (va_up (va_up (fun _ => none) 0 (some q12)) 1 (some q13))))))), (q3, .inl (ta 6, 9, .inr (.inr (.inr (.inr (fun _ => none))))))] ++ T_11) := hD_257
  clear hD_257
  refine lv_iinc (v := 2) (lv' := [(1, .int 2), (0, .ref h0)]) hx hb di_Heap_155 hl (k := 0) rfl (by decide) (by decide) rfl (fun ls hl => ?_)
  refine lv_goto (tgt := 137) hx hb di_Heap_158 (by decide) ?_
  refine lv_iload_n hx hb di_Heap_137 rfl (lv_at hl 0 rfl) ?_
  refine lv_iconst (v := 4) hx hb di_Heap_138 (by decide) ?_
  refine lv_icmp_ge (tgt := 161) hx hb di_Heap_139 (by decide) (fun c9 => absurd c9 (by decide)) (fun c9 => ?_)
  clear c9
  refine lv_aload_n hx hb di_Heap_142 rfl (lv_at hl 1 rfl) ?_
  refine va_get (D := D) (ci := 10) (v := .ref q2) (C := RX10) (T := TX10) (N := 14) hx hb hts dh_u10 hown hK hP_259 0 rfl rfl 1 (by decide) (hts (.fieldLink RX10 18 RX10 "laws" "[LDoubleHeap$Law;") (dh_has_in (i := 418) (by decide +kernel))) (fun _ h9 => h9) rfl di_Heap_143 ?_
  refine lv_iload_n hx hb di_Heap_146 rfl (lv_at hl 0 rfl) ?_
  refine va_new (ci := 1) (fs := [.null, .int 0, .null, .null, .int 0]) (C := RX1) (T := TX1) (N := 5) hx hb hts dh_u1 tyX1 tyX1_ok hown (hts (.classLink RX10 16 RX1) (dh_has_in (i := 190) (by decide +kernel))) (hts (.instantiable RX1 5) (dh_has_in (i := 392) (by decide +kernel))) (hts (.initialized RX1) (dh_has_in (i := 161) (by decide +kernel))) hK hP_259 hD_260 hS_258 hA rfl (by decide +kernel) (Nat.le_of_ble_eq_true rfl) (Nat.le_of_ble_eq_true rfl) di_Heap_147 (fun q14 H_261 hP_262 hD_263 hS_264 => ?_)
  clear hP_259 hD_260 hS_258
  refine lv_dup hx hb di_Heap_150 rfl ?_
  have hPc : va_P D vwCl [(q14, .inr (1, [.null, .int 0, .null, .null, .int 0]))] H_261 := dh_Pr hP_262
  have hDc : va_D A [(q14, .inr (1, [.null, .int 0, .null, .null, .int 0]))] := dh_Dr hD_263
  have hFc := dh_Fr (wc := [(q14, .inr (1, [.null, .int 0, .null, .null, .int 0]))]) hD_263 hS_264 hA
  refine va_callv (va_runIN (As := []) (rest := [.ref q14, .int 2, .ref q2]) ⟨hx, hb, hml, hown, hts⟩ (k_Law l D ta q14 H_261.size) ⟨va_cnB (host := "DoubleHeap") 0 hts gwi_Law rfl rfl rfl (hN _ (dh_hasN_in (i := 393) (by decide +kernel) rfl)) (hts (.initialized RX1) (dh_has_in (i := 161) (by decide +kernel))) (by decide +kernel) ⟨Nat.le_of_ble_eq_true rfl, Nat.le_of_ble_eq_true rfl⟩, rfl, hts (.instanceMethod yi_Law) (dh_has_in (i := 394) (by decide +kernel))⟩ ⟨dh_Pi_blind, fun U hU hW => ⟨rfl, by rw [hU], by rw [hU]; exact hPc, va_K.moved hW.alike hK, hDc.weaken (fun _ _ _ _ => trivial), hN.warm hW, hO.moved hW.alike⟩⟩ rfl rfl hl.1 rfl (lv_room (Nat.le_of_ble_eq_true rfl)) di_Heap_151 ⟨Nat.le_of_ble_eq_true rfl, Nat.le_of_ble_eq_true rfl⟩) hS_264 (fun q _ h => hFc q h) hFc (fun u t H_266 locs_267 ht hvm hw hB hz1 hk1 hS_268 => ?_)
  clear hS_264
  obtain ⟨hPx, hDx⟩ := hB
  rw [ht] at hPx
  obtain ⟨fq14, rfl⟩ := dh_lenf hw
  obtain ⟨hP_269, hD_270⟩ := dh_joinA hP_262 hD_263 hk1 hFc hPx hDx
  clear hP_262 hD_263
  clear hPc hDc hFc hPx hDx hk1 hz1 hw ht hvm
  have hPj : va_P D vwCl ([(h0, .inr (10, [.ref q1, .ref q2, .ref q3, .ref q4, .ref q5, .ref q6, .ref q7, .ref q8, .ref q9, .ref q10, .ref q11, .int 0, .int 1, .int 1])), (q2, .inl (ta 5, 4, .inr (.inr (.inr (.inr (va_up (va_up (fun _ => none) 0 (some q12)) 1 (some q13))))))), (q3, .inl (ta 6, 9, .inr (.inr (.inr (.inr (fun _ => none))))))] ++ (T_11 ++ dh_sg ta sg_Law dh_z (q14 :: (List.range 9).map fq14))) H_266 := by rw [← List.append_assoc]; exact hP_269
  have hDj : va_D A ([(h0, .inr (10, [.ref q1, .ref q2, .ref q3, .ref q4, .ref q5, .ref q6, .ref q7, .ref q8, .ref q9, .ref q10, .ref q11, .int 0, .int 1, .int 1])), (q2, .inl (ta 5, 4, .inr (.inr (.inr (.inr (va_up (va_up (fun _ => none) 0 (some q12)) 1 (some q13))))))), (q3, .inl (ta 6, 9, .inr (.inr (.inr (.inr (fun _ => none))))))] ++ (T_11 ++ dh_sg ta sg_Law dh_z (q14 :: (List.range 9).map fq14))) := by rw [← List.append_assoc]; exact hD_270
  clear hP_269 hD_270
  obtain ⟨T_12, eT_12⟩ : ∃ z, z = T_11 ++ dh_sg ta sg_Law dh_z (q14 :: (List.range 9).map fq14) := ⟨_, rfl⟩
  rw [← eT_12] at hPj hDj
  have hlen_12 : T_12.length = 107 := by rw [eT_12, List.length_append, hlen_11]; rfl
  have hP_271 := hPj
  have hD_272 := hDj
  clear hPj hDj
  refine W.widen (k := 109) (n := 24846) (Nat.le_of_ble_eq_true rfl) (Nat.le_of_ble_eq_true rfl) ?_
  obtain ⟨vs, rr, ehd⟩ := dh_hd_Law ta q14 ((List.range 9).map fq14)
  have hvv : ([(h0, .inr (10, [.ref q1, .ref q2, .ref q3, .ref q4, .ref q5, .ref q6, .ref q7, .ref q8, .ref q9, .ref q10, .ref q11, .int 0, .int 1, .int 1])), (q2, .inl (ta 5, 4, .inr (.inr (.inr (.inr (va_up (va_up (fun _ => none) 0 (some q12)) 1 (some q13))))))), (q3, .inl (ta 6, 9, .inr (.inr (.inr (.inr (fun _ => none))))))] ++ T_12)[3 + 97]? = some (q14, .inr (1, vs)) := by rw [eT_12, ehd]; exact dh_at3 hlen_11
  refine va_astq (D := D) (r := (RX1, TX1, 5)) hx hb hK hP_271 hD_272 hS_268 1 4 (3 + 97) 1 rfl rfl hvv rfl (i := 2) (vp_in_iff.mpr (by decide)) di_Heap_154 (fun H_273 locs_274 hP_275 hD_276 hS_277 => ?_)
  clear hP_271 hD_272 hS_268
  clear hvv ehd
  have hP_278 : va_P D vwCl ([(h0, .inr (10, [.ref q1, .ref q2, .ref q3, .ref q4, .ref q5, .ref q6, .ref q7, .ref q8, .ref q9, .ref q10, .ref q11, .int 0, .int 1, .int 1])), (q2, .inl (ta 5, 4, .inr (.inr (.inr (.inr (va_up (va_up (va_up (fun _ => none) 0 (some q12)) 1 (some q13)) 2 (some q14))))))), (q3, .inl (ta 6, 9, .inr (.inr (.inr (.inr (fun _ => none))))))] ++ T_12) H_273 := hP_275
  clear hP_275
  have hD_279 : va_D A ([(h0, .inr (10, [.ref q1, .ref q2, .ref q3, .ref q4, .ref q5, .ref q6, .ref q7, .ref q8, .ref q9, .ref q10, .ref q11, .int 0, .int 1, .int 1])), (q2, .inl (ta 5, 4, .inr (.inr (.inr (.inr (va_up (va_up (va_up (fun _ => none) 0 (some q12)) 1 (some q13)) 2 (some q14))))))), (q3, .inl (ta 6, 9, .inr (.inr (.inr (.inr (fun _ => none))))))] ++ T_12) := hD_276
  clear hD_276
  refine lv_iinc (v := 3) (lv' := [(1, .int 3), (0, .ref h0)]) hx hb di_Heap_155 hl (k := 0) rfl (by decide) (by decide) rfl (fun ls hl => ?_)
  refine lv_goto (tgt := 137) hx hb di_Heap_158 (by decide) ?_
  refine lv_iload_n hx hb di_Heap_137 rfl (lv_at hl 0 rfl) ?_
  refine lv_iconst (v := 4) hx hb di_Heap_138 (by decide) ?_
  refine lv_icmp_ge (tgt := 161) hx hb di_Heap_139 (by decide) (fun c9 => absurd c9 (by decide)) (fun c9 => ?_)
  clear c9
  refine lv_aload_n hx hb di_Heap_142 rfl (lv_at hl 1 rfl) ?_
  refine va_get (D := D) (ci := 10) (v := .ref q2) (C := RX10) (T := TX10) (N := 14) hx hb hts dh_u10 hown hK hP_278 0 rfl rfl 1 (by decide) (hts (.fieldLink RX10 18 RX10 "laws" "[LDoubleHeap$Law;") (dh_has_in (i := 418) (by decide +kernel))) (fun _ h9 => h9) rfl di_Heap_143 ?_
  refine lv_iload_n hx hb di_Heap_146 rfl (lv_at hl 0 rfl) ?_
  refine va_new (ci := 1) (fs := [.null, .int 0, .null, .null, .int 0]) (C := RX1) (T := TX1) (N := 5) hx hb hts dh_u1 tyX1 tyX1_ok hown (hts (.classLink RX10 16 RX1) (dh_has_in (i := 190) (by decide +kernel))) (hts (.instantiable RX1 5) (dh_has_in (i := 392) (by decide +kernel))) (hts (.initialized RX1) (dh_has_in (i := 161) (by decide +kernel))) hK hP_278 hD_279 hS_277 hA rfl (by decide +kernel) (Nat.le_of_ble_eq_true rfl) (Nat.le_of_ble_eq_true rfl) di_Heap_147 (fun q15 H_280 hP_281 hD_282 hS_283 => ?_)
  clear hP_278 hD_279 hS_277
  refine lv_dup hx hb di_Heap_150 rfl ?_
  have hPc : va_P D vwCl [(q15, .inr (1, [.null, .int 0, .null, .null, .int 0]))] H_280 := dh_Pr hP_281
  have hDc : va_D A [(q15, .inr (1, [.null, .int 0, .null, .null, .int 0]))] := dh_Dr hD_282
  have hFc := dh_Fr (wc := [(q15, .inr (1, [.null, .int 0, .null, .null, .int 0]))]) hD_282 hS_283 hA
  refine va_callv (va_runIN (As := []) (rest := [.ref q15, .int 3, .ref q2]) ⟨hx, hb, hml, hown, hts⟩ (k_Law l D ta q15 H_280.size) ⟨va_cnB (host := "DoubleHeap") 0 hts gwi_Law rfl rfl rfl (hN _ (dh_hasN_in (i := 393) (by decide +kernel) rfl)) (hts (.initialized RX1) (dh_has_in (i := 161) (by decide +kernel))) (by decide +kernel) ⟨Nat.le_of_ble_eq_true rfl, Nat.le_of_ble_eq_true rfl⟩, rfl, hts (.instanceMethod yi_Law) (dh_has_in (i := 394) (by decide +kernel))⟩ ⟨dh_Pi_blind, fun U hU hW => ⟨rfl, by rw [hU], by rw [hU]; exact hPc, va_K.moved hW.alike hK, hDc.weaken (fun _ _ _ _ => trivial), hN.warm hW, hO.moved hW.alike⟩⟩ rfl rfl hl.1 rfl (lv_room (Nat.le_of_ble_eq_true rfl)) di_Heap_151 ⟨Nat.le_of_ble_eq_true rfl, Nat.le_of_ble_eq_true rfl⟩) hS_283 (fun q _ h => hFc q h) hFc (fun u t H_285 locs_286 ht hvm hw hB hz1 hk1 hS_287 => ?_)
  clear hS_283
  obtain ⟨hPx, hDx⟩ := hB
  rw [ht] at hPx
  obtain ⟨fq15, rfl⟩ := dh_lenf hw
  obtain ⟨hP_288, hD_289⟩ := dh_joinA hP_281 hD_282 hk1 hFc hPx hDx
  clear hP_281 hD_282
  clear hPc hDc hFc hPx hDx hk1 hz1 hw ht hvm
  have hPj : va_P D vwCl ([(h0, .inr (10, [.ref q1, .ref q2, .ref q3, .ref q4, .ref q5, .ref q6, .ref q7, .ref q8, .ref q9, .ref q10, .ref q11, .int 0, .int 1, .int 1])), (q2, .inl (ta 5, 4, .inr (.inr (.inr (.inr (va_up (va_up (va_up (fun _ => none) 0 (some q12)) 1 (some q13)) 2 (some q14))))))), (q3, .inl (ta 6, 9, .inr (.inr (.inr (.inr (fun _ => none))))))] ++ (T_12 ++ dh_sg ta sg_Law dh_z (q15 :: (List.range 9).map fq15))) H_285 := by rw [← List.append_assoc]; exact hP_288
  have hDj : va_D A ([(h0, .inr (10, [.ref q1, .ref q2, .ref q3, .ref q4, .ref q5, .ref q6, .ref q7, .ref q8, .ref q9, .ref q10, .ref q11, .int 0, .int 1, .int 1])), (q2, .inl (ta 5, 4, .inr (.inr (.inr (.inr (va_up (va_up (va_up (fun _ => none) 0 (some q12)) 1 (some q13)) 2 (some q14))))))), (q3, .inl (ta 6, 9, .inr (.inr (.inr (.inr (fun _ => none))))))] ++ (T_12 ++ dh_sg ta sg_Law dh_z (q15 :: (List.range 9).map fq15))) := by rw [← List.append_assoc]; exact hD_289
  clear hP_288 hD_289
  obtain ⟨T_13, eT_13⟩ : ∃ z, z = T_12 ++ dh_sg ta sg_Law dh_z (q15 :: (List.range 9).map fq15) := ⟨_, rfl⟩
  rw [← eT_13] at hPj hDj
  have hlen_13 : T_13.length = 117 := by rw [eT_13, List.length_append, hlen_12]; rfl
  have hP_290 := hPj
  have hD_291 := hDj
  clear hPj hDj
  refine W.widen (k := 119) (n := 26951) (Nat.le_of_ble_eq_true rfl) (Nat.le_of_ble_eq_true rfl) ?_
  obtain ⟨vs, rr, ehd⟩ := dh_hd_Law ta q15 ((List.range 9).map fq15)
  have hvv : ([(h0, .inr (10, [.ref q1, .ref q2, .ref q3, .ref q4, .ref q5, .ref q6, .ref q7, .ref q8, .ref q9, .ref q10, .ref q11, .int 0, .int 1, .int 1])), (q2, .inl (ta 5, 4, .inr (.inr (.inr (.inr (va_up (va_up (va_up (fun _ => none) 0 (some q12)) 1 (some q13)) 2 (some q14))))))), (q3, .inl (ta 6, 9, .inr (.inr (.inr (.inr (fun _ => none))))))] ++ T_13)[3 + 107]? = some (q15, .inr (1, vs)) := by rw [eT_13, ehd]; exact dh_at3 hlen_12
  refine va_astq (D := D) (r := (RX1, TX1, 5)) hx hb hK hP_290 hD_291 hS_287 1 4 (3 + 107) 1 rfl rfl hvv rfl (i := 3) (vp_in_iff.mpr (by decide)) di_Heap_154 (fun H_292 locs_293 hP_294 hD_295 hS_296 => ?_)
  clear hP_290 hD_291 hS_287
  clear hvv ehd
  have hP_297 : va_P D vwCl ([(h0, .inr (10, [.ref q1, .ref q2, .ref q3, .ref q4, .ref q5, .ref q6, .ref q7, .ref q8, .ref q9, .ref q10, .ref q11, .int 0, .int 1, .int 1])), (q2, .inl (ta 5, 4, .inr (.inr (.inr (.inr (va_up (va_up (va_up (va_up (fun _ => none) 0 (some q12)) 1 (some q13)) 2 (some q14)) 3 (some q15))))))), (q3, .inl (ta 6, 9, .inr (.inr (.inr (.inr (fun _ => none))))))] ++ T_13) H_292 := hP_294
  clear hP_294
  have hD_298 : va_D A ([(h0, .inr (10, [.ref q1, .ref q2, .ref q3, .ref q4, .ref q5, .ref q6, .ref q7, .ref q8, .ref q9, .ref q10, .ref q11, .int 0, .int 1, .int 1])), (q2, .inl (ta 5, 4, .inr (.inr (.inr (.inr (va_up (va_up (va_up (va_up (fun _ => none) 0 (some q12)) 1 (some q13)) 2 (some q14)) 3 (some q15))))))), (q3, .inl (ta 6, 9, .inr (.inr (.inr (.inr (fun _ => none))))))] ++ T_13) := hD_295
  clear hD_295
  refine lv_iinc (v := 4) (lv' := [(1, .int 4), (0, .ref h0)]) hx hb di_Heap_155 hl (k := 0) rfl (by decide) (by decide) rfl (fun ls hl => ?_)
  refine lv_goto (tgt := 137) hx hb di_Heap_158 (by decide) ?_
  refine lv_iload_n hx hb di_Heap_137 rfl (lv_at hl 0 rfl) ?_
  refine lv_iconst (v := 4) hx hb di_Heap_138 (by decide) ?_
  refine lv_icmp_ge (tgt := 161) hx hb di_Heap_139 (by decide) (fun c9 => ?_) (fun c9 => absurd (by decide) c9)
  clear c9
  refine lv_iconst (v := 0) hx hb di_Heap_161 (by decide) ?_
  refine lv_istore_n (lv' := [(1, .int 0), (0, .ref h0)]) hx hb di_Heap_162 rfl hl (by decide) rfl (fun ls hl => ?_)
  refine lv_iload_n hx hb di_Heap_163 rfl (lv_at hl 0 rfl) ?_
  refine lv_bipush (v := 9) hx hb di_Heap_164 (by decide) ?_
  refine lv_icmp_ge (tgt := 188) hx hb di_Heap_166 (by decide) (fun c9 => absurd c9 (by decide)) (fun c9 => ?_)
  clear c9
  refine lv_aload_n hx hb di_Heap_169 rfl (lv_at hl 1 rfl) ?_
  refine va_get (D := D) (ci := 10) (v := .ref q3) (C := RX10) (T := TX10) (N := 14) hx hb hts dh_u10 hown hK hP_297 0 rfl rfl 2 (by decide) (hts (.fieldLink RX10 24 RX10 "tales" "[LDoubleHeap$Tale;") (dh_has_in (i := 419) (by decide +kernel))) (fun _ h9 => h9) rfl di_Heap_170 ?_
  refine lv_iload_n hx hb di_Heap_173 rfl (lv_at hl 0 rfl) ?_
  refine va_new (ci := 7) (fs := [.int 0, .int 0, .int 0, .null, .null]) (C := RX7) (T := TX7) (N := 5) hx hb hts dh_u7 tyX7 tyX7_ok hown (hts (.classLink RX10 22 RX7) (dh_has_in (i := 192) (by decide +kernel))) (hts (.instantiable RX7 5) (dh_has_in (i := 257) (by decide +kernel))) (hts (.initialized RX7) (dh_has_in (i := 155) (by decide +kernel))) hK hP_297 hD_298 hS_296 hA rfl (by decide +kernel) (Nat.le_of_ble_eq_true rfl) (Nat.le_of_ble_eq_true rfl) di_Heap_174 (fun q16 H_299 hP_300 hD_301 hS_302 => ?_)
  clear hP_297 hD_298 hS_296
  refine lv_dup hx hb di_Heap_177 rfl ?_
  have hPc : va_P D vwCl [(q16, .inr (7, [.int 0, .int 0, .int 0, .null, .null]))] H_299 := dh_Pr hP_300
  have hDc : va_D A [(q16, .inr (7, [.int 0, .int 0, .int 0, .null, .null]))] := dh_Dr hD_301
  have hFc := dh_Fr (wc := [(q16, .inr (7, [.int 0, .int 0, .int 0, .null, .null]))]) hD_301 hS_302 hA
  refine va_callv (va_runIN (As := []) (rest := [.ref q16, .int 0, .ref q3]) ⟨hx, hb, hml, hown, hts⟩ (k_Tale l D ta q16 H_299.size) ⟨va_cnB (host := "DoubleHeap") 0 hts gwi_Tale rfl rfl rfl (hN _ (dh_hasN_in (i := 258) (by decide +kernel) rfl)) (hts (.initialized RX7) (dh_has_in (i := 155) (by decide +kernel))) (by decide +kernel) ⟨Nat.le_of_ble_eq_true rfl, Nat.le_of_ble_eq_true rfl⟩, rfl, hts (.instanceMethod yi_Tale) (dh_has_in (i := 259) (by decide +kernel))⟩ ⟨dh_Pi_blind, fun U hU hW => ⟨rfl, by rw [hU], by rw [hU]; exact hPc, va_K.moved hW.alike hK, hDc.weaken (fun _ _ _ _ => trivial), hN.warm hW, hO.moved hW.alike⟩⟩ rfl rfl hl.1 rfl (lv_room (Nat.le_of_ble_eq_true rfl)) di_Heap_178 ⟨Nat.le_of_ble_eq_true rfl, Nat.le_of_ble_eq_true rfl⟩) hS_302 (fun q _ h => hFc q h) hFc (fun u t H_304 locs_305 ht hvm hw hB hz1 hk1 hS_306 => ?_)
  clear hS_302
  obtain ⟨hPx, hDx⟩ := hB
  rw [ht] at hPx
  obtain ⟨fq16, rfl⟩ := dh_lenf hw
  obtain ⟨hP_307, hD_308⟩ := dh_joinA hP_300 hD_301 hk1 hFc hPx hDx
  clear hP_300 hD_301
  clear hPc hDc hFc hPx hDx hk1 hz1 hw ht hvm
  have hPj : va_P D vwCl ([(h0, .inr (10, [.ref q1, .ref q2, .ref q3, .ref q4, .ref q5, .ref q6, .ref q7, .ref q8, .ref q9, .ref q10, .ref q11, .int 0, .int 1, .int 1])), (q2, .inl (ta 5, 4, .inr (.inr (.inr (.inr (va_up (va_up (va_up (va_up (fun _ => none) 0 (some q12)) 1 (some q13)) 2 (some q14)) 3 (some q15))))))), (q3, .inl (ta 6, 9, .inr (.inr (.inr (.inr (fun _ => none))))))] ++ (T_13 ++ dh_sg ta sg_Tale dh_z (q16 :: (List.range 2).map fq16))) H_304 := by rw [← List.append_assoc]; exact hP_307
  have hDj : va_D A ([(h0, .inr (10, [.ref q1, .ref q2, .ref q3, .ref q4, .ref q5, .ref q6, .ref q7, .ref q8, .ref q9, .ref q10, .ref q11, .int 0, .int 1, .int 1])), (q2, .inl (ta 5, 4, .inr (.inr (.inr (.inr (va_up (va_up (va_up (va_up (fun _ => none) 0 (some q12)) 1 (some q13)) 2 (some q14)) 3 (some q15))))))), (q3, .inl (ta 6, 9, .inr (.inr (.inr (.inr (fun _ => none))))))] ++ (T_13 ++ dh_sg ta sg_Tale dh_z (q16 :: (List.range 2).map fq16))) := by rw [← List.append_assoc]; exact hD_308
  clear hP_307 hD_308
  obtain ⟨T_14, eT_14⟩ : ∃ z, z = T_13 ++ dh_sg ta sg_Tale dh_z (q16 :: (List.range 2).map fq16) := ⟨_, rfl⟩
  rw [← eT_14] at hPj hDj
  have hlen_14 : T_14.length = 120 := by rw [eT_14, List.length_append, hlen_13]; rfl
  have hP_309 := hPj
  have hD_310 := hDj
  clear hPj hDj
  refine W.widen (k := 122) (n := 27036) (Nat.le_of_ble_eq_true rfl) (Nat.le_of_ble_eq_true rfl) ?_
  obtain ⟨vs, rr, ehd⟩ := dh_hd_Tale ta q16 ((List.range 2).map fq16)
  have hvv : ([(h0, .inr (10, [.ref q1, .ref q2, .ref q3, .ref q4, .ref q5, .ref q6, .ref q7, .ref q8, .ref q9, .ref q10, .ref q11, .int 0, .int 1, .int 1])), (q2, .inl (ta 5, 4, .inr (.inr (.inr (.inr (va_up (va_up (va_up (va_up (fun _ => none) 0 (some q12)) 1 (some q13)) 2 (some q14)) 3 (some q15))))))), (q3, .inl (ta 6, 9, .inr (.inr (.inr (.inr (fun _ => none))))))] ++ T_14)[3 + 117]? = some (q16, .inr (7, vs)) := by rw [eT_14, ehd]; exact dh_at3 hlen_13
  refine va_astq (D := D) (r := (RX7, TX7, 5)) hx hb hK hP_309 hD_310 hS_306 2 5 (3 + 117) 7 rfl rfl hvv rfl (i := 0) (vp_in_iff.mpr (by decide)) di_Heap_181 (fun H_311 locs_312 hP_313 hD_314 hS_315 => ?_)
  clear hP_309 hD_310 hS_306
  clear hvv ehd
  have hP_316 : va_P D vwCl ([(h0, .inr (10, [.ref q1, .ref q2, .ref q3, .ref q4, .ref q5, .ref q6, .ref q7, .ref q8, .ref q9, .ref q10, .ref q11, .int 0, .int 1, .int 1])), (q2, .inl (ta 5, 4, .inr (.inr (.inr (.inr (va_up (va_up (va_up (va_up (fun _ => none) 0 (some q12)) 1 (some q13)) 2 (some q14)) 3 (some q15))))))), (q3, .inl (ta 6, 9, .inr (.inr (.inr (.inr (va_up (fun _ => none) 0 (some q16)))))))] ++ T_14) H_311 := hP_313
  clear hP_313
  have hD_317 : va_D A ([(h0, .inr (10, [.ref q1, .ref q2, .ref q3, .ref q4, .ref q5, .ref q6, .ref q7, .ref q8, .ref q9, .ref q10, .ref q11, .int 0, .int 1, .int 1])), (q2, .inl (ta 5, 4, .inr (.inr (.inr (.inr (va_up (va_up (va_up (va_up (fun _ => none) 0 (some q12)) 1 (some q13)) 2 (some q14)) 3 (some q15))))))), (q3, .inl (ta 6, 9, .inr (.inr (.inr (.inr (va_up (fun _ => none) 0 (some q16)))))))] ++ T_14) := hD_314
  clear hD_314
  refine lv_iinc (v := 1) (lv' := [(1, .int 1), (0, .ref h0)]) hx hb di_Heap_182 hl (k := 0) rfl (by decide) (by decide) rfl (fun ls hl => ?_)
  refine lv_goto (tgt := 163) hx hb di_Heap_185 (by decide) ?_
  refine lv_iload_n hx hb di_Heap_163 rfl (lv_at hl 0 rfl) ?_
  refine lv_bipush (v := 9) hx hb di_Heap_164 (by decide) ?_
  refine lv_icmp_ge (tgt := 188) hx hb di_Heap_166 (by decide) (fun c9 => absurd c9 (by decide)) (fun c9 => ?_)
  clear c9
  refine lv_aload_n hx hb di_Heap_169 rfl (lv_at hl 1 rfl) ?_
  refine va_get (D := D) (ci := 10) (v := .ref q3) (C := RX10) (T := TX10) (N := 14) hx hb hts dh_u10 hown hK hP_316 0 rfl rfl 2 (by decide) (hts (.fieldLink RX10 24 RX10 "tales" "[LDoubleHeap$Tale;") (dh_has_in (i := 419) (by decide +kernel))) (fun _ h9 => h9) rfl di_Heap_170 ?_
  refine lv_iload_n hx hb di_Heap_173 rfl (lv_at hl 0 rfl) ?_
  refine va_new (ci := 7) (fs := [.int 0, .int 0, .int 0, .null, .null]) (C := RX7) (T := TX7) (N := 5) hx hb hts dh_u7 tyX7 tyX7_ok hown (hts (.classLink RX10 22 RX7) (dh_has_in (i := 192) (by decide +kernel))) (hts (.instantiable RX7 5) (dh_has_in (i := 257) (by decide +kernel))) (hts (.initialized RX7) (dh_has_in (i := 155) (by decide +kernel))) hK hP_316 hD_317 hS_315 hA rfl (by decide +kernel) (Nat.le_of_ble_eq_true rfl) (Nat.le_of_ble_eq_true rfl) di_Heap_174 (fun q17 H_318 hP_319 hD_320 hS_321 => ?_)
  clear hP_316 hD_317 hS_315
  refine lv_dup hx hb di_Heap_177 rfl ?_
  have hPc : va_P D vwCl [(q17, .inr (7, [.int 0, .int 0, .int 0, .null, .null]))] H_318 := dh_Pr hP_319
  have hDc : va_D A [(q17, .inr (7, [.int 0, .int 0, .int 0, .null, .null]))] := dh_Dr hD_320
  have hFc := dh_Fr (wc := [(q17, .inr (7, [.int 0, .int 0, .int 0, .null, .null]))]) hD_320 hS_321 hA
  refine va_callv (va_runIN (As := []) (rest := [.ref q17, .int 1, .ref q3]) ⟨hx, hb, hml, hown, hts⟩ (k_Tale l D ta q17 H_318.size) ⟨va_cnB (host := "DoubleHeap") 0 hts gwi_Tale rfl rfl rfl (hN _ (dh_hasN_in (i := 258) (by decide +kernel) rfl)) (hts (.initialized RX7) (dh_has_in (i := 155) (by decide +kernel))) (by decide +kernel) ⟨Nat.le_of_ble_eq_true rfl, Nat.le_of_ble_eq_true rfl⟩, rfl, hts (.instanceMethod yi_Tale) (dh_has_in (i := 259) (by decide +kernel))⟩ ⟨dh_Pi_blind, fun U hU hW => ⟨rfl, by rw [hU], by rw [hU]; exact hPc, va_K.moved hW.alike hK, hDc.weaken (fun _ _ _ _ => trivial), hN.warm hW, hO.moved hW.alike⟩⟩ rfl rfl hl.1 rfl (lv_room (Nat.le_of_ble_eq_true rfl)) di_Heap_178 ⟨Nat.le_of_ble_eq_true rfl, Nat.le_of_ble_eq_true rfl⟩) hS_321 (fun q _ h => hFc q h) hFc (fun u t H_323 locs_324 ht hvm hw hB hz1 hk1 hS_325 => ?_)
  clear hS_321
  obtain ⟨hPx, hDx⟩ := hB
  rw [ht] at hPx
  obtain ⟨fq17, rfl⟩ := dh_lenf hw
  obtain ⟨hP_326, hD_327⟩ := dh_joinA hP_319 hD_320 hk1 hFc hPx hDx
  clear hP_319 hD_320
  clear hPc hDc hFc hPx hDx hk1 hz1 hw ht hvm
  have hPj : va_P D vwCl ([(h0, .inr (10, [.ref q1, .ref q2, .ref q3, .ref q4, .ref q5, .ref q6, .ref q7, .ref q8, .ref q9, .ref q10, .ref q11, .int 0, .int 1, .int 1])), (q2, .inl (ta 5, 4, .inr (.inr (.inr (.inr (va_up (va_up (va_up (va_up (fun _ => none) 0 (some q12)) 1 (some q13)) 2 (some q14)) 3 (some q15))))))), (q3, .inl (ta 6, 9, .inr (.inr (.inr (.inr (va_up (fun _ => none) 0 (some q16)))))))] ++ (T_14 ++ dh_sg ta sg_Tale dh_z (q17 :: (List.range 2).map fq17))) H_323 := by rw [← List.append_assoc]; exact hP_326
  have hDj : va_D A ([(h0, .inr (10, [.ref q1, .ref q2, .ref q3, .ref q4, .ref q5, .ref q6, .ref q7, .ref q8, .ref q9, .ref q10, .ref q11, .int 0, .int 1, .int 1])), (q2, .inl (ta 5, 4, .inr (.inr (.inr (.inr (va_up (va_up (va_up (va_up (fun _ => none) 0 (some q12)) 1 (some q13)) 2 (some q14)) 3 (some q15))))))), (q3, .inl (ta 6, 9, .inr (.inr (.inr (.inr (va_up (fun _ => none) 0 (some q16)))))))] ++ (T_14 ++ dh_sg ta sg_Tale dh_z (q17 :: (List.range 2).map fq17))) := by rw [← List.append_assoc]; exact hD_327
  clear hP_326 hD_327
  obtain ⟨T_15, eT_15⟩ : ∃ z, z = T_14 ++ dh_sg ta sg_Tale dh_z (q17 :: (List.range 2).map fq17) := ⟨_, rfl⟩
  rw [← eT_15] at hPj hDj
  have hlen_15 : T_15.length = 123 := by rw [eT_15, List.length_append, hlen_14]; rfl
  have hP_328 := hPj
  have hD_329 := hDj
  clear hPj hDj
  refine W.widen (k := 125) (n := 27121) (Nat.le_of_ble_eq_true rfl) (Nat.le_of_ble_eq_true rfl) ?_
  obtain ⟨vs, rr, ehd⟩ := dh_hd_Tale ta q17 ((List.range 2).map fq17)
  have hvv : ([(h0, .inr (10, [.ref q1, .ref q2, .ref q3, .ref q4, .ref q5, .ref q6, .ref q7, .ref q8, .ref q9, .ref q10, .ref q11, .int 0, .int 1, .int 1])), (q2, .inl (ta 5, 4, .inr (.inr (.inr (.inr (va_up (va_up (va_up (va_up (fun _ => none) 0 (some q12)) 1 (some q13)) 2 (some q14)) 3 (some q15))))))), (q3, .inl (ta 6, 9, .inr (.inr (.inr (.inr (va_up (fun _ => none) 0 (some q16)))))))] ++ T_15)[3 + 120]? = some (q17, .inr (7, vs)) := by rw [eT_15, ehd]; exact dh_at3 hlen_14
  refine va_astq (D := D) (r := (RX7, TX7, 5)) hx hb hK hP_328 hD_329 hS_325 2 5 (3 + 120) 7 rfl rfl hvv rfl (i := 1) (vp_in_iff.mpr (by decide)) di_Heap_181 (fun H_330 locs_331 hP_332 hD_333 hS_334 => ?_)
  clear hP_328 hD_329 hS_325
  clear hvv ehd
  have hP_335 : va_P D vwCl ([(h0, .inr (10, [.ref q1, .ref q2, .ref q3, .ref q4, .ref q5, .ref q6, .ref q7, .ref q8, .ref q9, .ref q10, .ref q11, .int 0, .int 1, .int 1])), (q2, .inl (ta 5, 4, .inr (.inr (.inr (.inr (va_up (va_up (va_up (va_up (fun _ => none) 0 (some q12)) 1 (some q13)) 2 (some q14)) 3 (some q15))))))), (q3, .inl (ta 6, 9, .inr (.inr (.inr (.inr (va_up (va_up (fun _ => none) 0 (some q16)) 1 (some q17)))))))] ++ T_15) H_330 := hP_332
  clear hP_332
  have hD_336 : va_D A ([(h0, .inr (10, [.ref q1, .ref q2, .ref q3, .ref q4, .ref q5, .ref q6, .ref q7, .ref q8, .ref q9, .ref q10, .ref q11, .int 0, .int 1, .int 1])), (q2, .inl (ta 5, 4, .inr (.inr (.inr (.inr (va_up (va_up (va_up (va_up (fun _ => none) 0 (some q12)) 1 (some q13)) 2 (some q14)) 3 (some q15))))))), (q3, .inl (ta 6, 9, .inr (.inr (.inr (.inr (va_up (va_up (fun _ => none) 0 (some q16)) 1 (some q17)))))))] ++ T_15) := hD_333
  clear hD_333
  refine lv_iinc (v := 2) (lv' := [(1, .int 2), (0, .ref h0)]) hx hb di_Heap_182 hl (k := 0) rfl (by decide) (by decide) rfl (fun ls hl => ?_)
  refine lv_goto (tgt := 163) hx hb di_Heap_185 (by decide) ?_
  refine lv_iload_n hx hb di_Heap_163 rfl (lv_at hl 0 rfl) ?_
  refine lv_bipush (v := 9) hx hb di_Heap_164 (by decide) ?_
  refine lv_icmp_ge (tgt := 188) hx hb di_Heap_166 (by decide) (fun c9 => absurd c9 (by decide)) (fun c9 => ?_)
  clear c9
  refine lv_aload_n hx hb di_Heap_169 rfl (lv_at hl 1 rfl) ?_
  refine va_get (D := D) (ci := 10) (v := .ref q3) (C := RX10) (T := TX10) (N := 14) hx hb hts dh_u10 hown hK hP_335 0 rfl rfl 2 (by decide) (hts (.fieldLink RX10 24 RX10 "tales" "[LDoubleHeap$Tale;") (dh_has_in (i := 419) (by decide +kernel))) (fun _ h9 => h9) rfl di_Heap_170 ?_
  refine lv_iload_n hx hb di_Heap_173 rfl (lv_at hl 0 rfl) ?_
  refine va_new (ci := 7) (fs := [.int 0, .int 0, .int 0, .null, .null]) (C := RX7) (T := TX7) (N := 5) hx hb hts dh_u7 tyX7 tyX7_ok hown (hts (.classLink RX10 22 RX7) (dh_has_in (i := 192) (by decide +kernel))) (hts (.instantiable RX7 5) (dh_has_in (i := 257) (by decide +kernel))) (hts (.initialized RX7) (dh_has_in (i := 155) (by decide +kernel))) hK hP_335 hD_336 hS_334 hA rfl (by decide +kernel) (Nat.le_of_ble_eq_true rfl) (Nat.le_of_ble_eq_true rfl) di_Heap_174 (fun q18 H_337 hP_338 hD_339 hS_340 => ?_)
  clear hP_335 hD_336 hS_334
  refine lv_dup hx hb di_Heap_177 rfl ?_
  have hPc : va_P D vwCl [(q18, .inr (7, [.int 0, .int 0, .int 0, .null, .null]))] H_337 := dh_Pr hP_338
  have hDc : va_D A [(q18, .inr (7, [.int 0, .int 0, .int 0, .null, .null]))] := dh_Dr hD_339
  have hFc := dh_Fr (wc := [(q18, .inr (7, [.int 0, .int 0, .int 0, .null, .null]))]) hD_339 hS_340 hA
  refine va_callv (va_runIN (As := []) (rest := [.ref q18, .int 2, .ref q3]) ⟨hx, hb, hml, hown, hts⟩ (k_Tale l D ta q18 H_337.size) ⟨va_cnB (host := "DoubleHeap") 0 hts gwi_Tale rfl rfl rfl (hN _ (dh_hasN_in (i := 258) (by decide +kernel) rfl)) (hts (.initialized RX7) (dh_has_in (i := 155) (by decide +kernel))) (by decide +kernel) ⟨Nat.le_of_ble_eq_true rfl, Nat.le_of_ble_eq_true rfl⟩, rfl, hts (.instanceMethod yi_Tale) (dh_has_in (i := 259) (by decide +kernel))⟩ ⟨dh_Pi_blind, fun U hU hW => ⟨rfl, by rw [hU], by rw [hU]; exact hPc, va_K.moved hW.alike hK, hDc.weaken (fun _ _ _ _ => trivial), hN.warm hW, hO.moved hW.alike⟩⟩ rfl rfl hl.1 rfl (lv_room (Nat.le_of_ble_eq_true rfl)) di_Heap_178 ⟨Nat.le_of_ble_eq_true rfl, Nat.le_of_ble_eq_true rfl⟩) hS_340 (fun q _ h => hFc q h) hFc (fun u t H_342 locs_343 ht hvm hw hB hz1 hk1 hS_344 => ?_)
  clear hS_340
  obtain ⟨hPx, hDx⟩ := hB
  rw [ht] at hPx
  obtain ⟨fq18, rfl⟩ := dh_lenf hw
  obtain ⟨hP_345, hD_346⟩ := dh_joinA hP_338 hD_339 hk1 hFc hPx hDx
  clear hP_338 hD_339
  clear hPc hDc hFc hPx hDx hk1 hz1 hw ht hvm
  have hPj : va_P D vwCl ([(h0, .inr (10, [.ref q1, .ref q2, .ref q3, .ref q4, .ref q5, .ref q6, .ref q7, .ref q8, .ref q9, .ref q10, .ref q11, .int 0, .int 1, .int 1])), (q2, .inl (ta 5, 4, .inr (.inr (.inr (.inr (va_up (va_up (va_up (va_up (fun _ => none) 0 (some q12)) 1 (some q13)) 2 (some q14)) 3 (some q15))))))), (q3, .inl (ta 6, 9, .inr (.inr (.inr (.inr (va_up (va_up (fun _ => none) 0 (some q16)) 1 (some q17)))))))] ++ (T_15 ++ dh_sg ta sg_Tale dh_z (q18 :: (List.range 2).map fq18))) H_342 := by rw [← List.append_assoc]; exact hP_345
  have hDj : va_D A ([(h0, .inr (10, [.ref q1, .ref q2, .ref q3, .ref q4, .ref q5, .ref q6, .ref q7, .ref q8, .ref q9, .ref q10, .ref q11, .int 0, .int 1, .int 1])), (q2, .inl (ta 5, 4, .inr (.inr (.inr (.inr (va_up (va_up (va_up (va_up (fun _ => none) 0 (some q12)) 1 (some q13)) 2 (some q14)) 3 (some q15))))))), (q3, .inl (ta 6, 9, .inr (.inr (.inr (.inr (va_up (va_up (fun _ => none) 0 (some q16)) 1 (some q17)))))))] ++ (T_15 ++ dh_sg ta sg_Tale dh_z (q18 :: (List.range 2).map fq18))) := by rw [← List.append_assoc]; exact hD_346
  clear hP_345 hD_346
  obtain ⟨T_16, eT_16⟩ : ∃ z, z = T_15 ++ dh_sg ta sg_Tale dh_z (q18 :: (List.range 2).map fq18) := ⟨_, rfl⟩
  rw [← eT_16] at hPj hDj
  have hlen_16 : T_16.length = 126 := by rw [eT_16, List.length_append, hlen_15]; rfl
  have hP_347 := hPj
  have hD_348 := hDj
  clear hPj hDj
  refine W.widen (k := 128) (n := 27206) (Nat.le_of_ble_eq_true rfl) (Nat.le_of_ble_eq_true rfl) ?_
  obtain ⟨vs, rr, ehd⟩ := dh_hd_Tale ta q18 ((List.range 2).map fq18)
  have hvv : ([(h0, .inr (10, [.ref q1, .ref q2, .ref q3, .ref q4, .ref q5, .ref q6, .ref q7, .ref q8, .ref q9, .ref q10, .ref q11, .int 0, .int 1, .int 1])), (q2, .inl (ta 5, 4, .inr (.inr (.inr (.inr (va_up (va_up (va_up (va_up (fun _ => none) 0 (some q12)) 1 (some q13)) 2 (some q14)) 3 (some q15))))))), (q3, .inl (ta 6, 9, .inr (.inr (.inr (.inr (va_up (va_up (fun _ => none) 0 (some q16)) 1 (some q17)))))))] ++ T_16)[3 + 123]? = some (q18, .inr (7, vs)) := by rw [eT_16, ehd]; exact dh_at3 hlen_15
  refine va_astq (D := D) (r := (RX7, TX7, 5)) hx hb hK hP_347 hD_348 hS_344 2 5 (3 + 123) 7 rfl rfl hvv rfl (i := 2) (vp_in_iff.mpr (by decide)) di_Heap_181 (fun H_349 locs_350 hP_351 hD_352 hS_353 => ?_)
  clear hP_347 hD_348 hS_344
  clear hvv ehd
  have hP_354 : va_P D vwCl ([(h0, .inr (10, [.ref q1, .ref q2, .ref q3, .ref q4, .ref q5, .ref q6, .ref q7, .ref q8, .ref q9, .ref q10, .ref q11, .int 0, .int 1, .int 1])), (q2, .inl (ta 5, 4, .inr (.inr (.inr (.inr (va_up (va_up (va_up (va_up (fun _ => none) 0 (some q12)) 1 (some q13)) 2 (some q14)) 3 (some q15))))))), (q3, .inl (ta 6, 9, .inr (.inr (.inr (.inr (va_up (va_up (va_up (fun _ => none) 0 (some q16)) 1 (some q17)) 2 (some q18)))))))] ++ T_16) H_349 := hP_351
  clear hP_351
  have hD_355 : va_D A ([(h0, .inr (10, [.ref q1, .ref q2, .ref q3, .ref q4, .ref q5, .ref q6, .ref q7, .ref q8, .ref q9, .ref q10, .ref q11, .int 0, .int 1, .int 1])), (q2, .inl (ta 5, 4, .inr (.inr (.inr (.inr (va_up (va_up (va_up (va_up (fun _ => none) 0 (some q12)) 1 (some q13)) 2 (some q14)) 3 (some q15))))))), (q3, .inl (ta 6, 9, .inr (.inr (.inr (.inr (va_up (va_up (va_up (fun _ => none) 0 (some q16)) 1 (some q17)) 2 (some q18)))))))] ++ T_16) := hD_352
  clear hD_352
  refine lv_iinc (v := 3) (lv' := [(1, .int 3), (0, .ref h0)]) hx hb di_Heap_182 hl (k := 0) rfl (by decide) (by decide) rfl (fun ls hl => ?_)
  refine lv_goto (tgt := 163) hx hb di_Heap_185 (by decide) ?_
  refine lv_iload_n hx hb di_Heap_163 rfl (lv_at hl 0 rfl) ?_
  refine lv_bipush (v := 9) hx hb di_Heap_164 (by decide) ?_
  refine lv_icmp_ge (tgt := 188) hx hb di_Heap_166 (by decide) (fun c9 => absurd c9 (by decide)) (fun c9 => ?_)
  clear c9
  refine lv_aload_n hx hb di_Heap_169 rfl (lv_at hl 1 rfl) ?_
  refine va_get (D := D) (ci := 10) (v := .ref q3) (C := RX10) (T := TX10) (N := 14) hx hb hts dh_u10 hown hK hP_354 0 rfl rfl 2 (by decide) (hts (.fieldLink RX10 24 RX10 "tales" "[LDoubleHeap$Tale;") (dh_has_in (i := 419) (by decide +kernel))) (fun _ h9 => h9) rfl di_Heap_170 ?_
  refine lv_iload_n hx hb di_Heap_173 rfl (lv_at hl 0 rfl) ?_
  refine va_new (ci := 7) (fs := [.int 0, .int 0, .int 0, .null, .null]) (C := RX7) (T := TX7) (N := 5) hx hb hts dh_u7 tyX7 tyX7_ok hown (hts (.classLink RX10 22 RX7) (dh_has_in (i := 192) (by decide +kernel))) (hts (.instantiable RX7 5) (dh_has_in (i := 257) (by decide +kernel))) (hts (.initialized RX7) (dh_has_in (i := 155) (by decide +kernel))) hK hP_354 hD_355 hS_353 hA rfl (by decide +kernel) (Nat.le_of_ble_eq_true rfl) (Nat.le_of_ble_eq_true rfl) di_Heap_174 (fun q19 H_356 hP_357 hD_358 hS_359 => ?_)
  clear hP_354 hD_355 hS_353
  refine lv_dup hx hb di_Heap_177 rfl ?_
  have hPc : va_P D vwCl [(q19, .inr (7, [.int 0, .int 0, .int 0, .null, .null]))] H_356 := dh_Pr hP_357
  have hDc : va_D A [(q19, .inr (7, [.int 0, .int 0, .int 0, .null, .null]))] := dh_Dr hD_358
  have hFc := dh_Fr (wc := [(q19, .inr (7, [.int 0, .int 0, .int 0, .null, .null]))]) hD_358 hS_359 hA
  refine va_callv (va_runIN (As := []) (rest := [.ref q19, .int 3, .ref q3]) ⟨hx, hb, hml, hown, hts⟩ (k_Tale l D ta q19 H_356.size) ⟨va_cnB (host := "DoubleHeap") 0 hts gwi_Tale rfl rfl rfl (hN _ (dh_hasN_in (i := 258) (by decide +kernel) rfl)) (hts (.initialized RX7) (dh_has_in (i := 155) (by decide +kernel))) (by decide +kernel) ⟨Nat.le_of_ble_eq_true rfl, Nat.le_of_ble_eq_true rfl⟩, rfl, hts (.instanceMethod yi_Tale) (dh_has_in (i := 259) (by decide +kernel))⟩ ⟨dh_Pi_blind, fun U hU hW => ⟨rfl, by rw [hU], by rw [hU]; exact hPc, va_K.moved hW.alike hK, hDc.weaken (fun _ _ _ _ => trivial), hN.warm hW, hO.moved hW.alike⟩⟩ rfl rfl hl.1 rfl (lv_room (Nat.le_of_ble_eq_true rfl)) di_Heap_178 ⟨Nat.le_of_ble_eq_true rfl, Nat.le_of_ble_eq_true rfl⟩) hS_359 (fun q _ h => hFc q h) hFc (fun u t H_361 locs_362 ht hvm hw hB hz1 hk1 hS_363 => ?_)
  clear hS_359
  obtain ⟨hPx, hDx⟩ := hB
  rw [ht] at hPx
  obtain ⟨fq19, rfl⟩ := dh_lenf hw
  obtain ⟨hP_364, hD_365⟩ := dh_joinA hP_357 hD_358 hk1 hFc hPx hDx
  clear hP_357 hD_358
  clear hPc hDc hFc hPx hDx hk1 hz1 hw ht hvm
  have hPj : va_P D vwCl ([(h0, .inr (10, [.ref q1, .ref q2, .ref q3, .ref q4, .ref q5, .ref q6, .ref q7, .ref q8, .ref q9, .ref q10, .ref q11, .int 0, .int 1, .int 1])), (q2, .inl (ta 5, 4, .inr (.inr (.inr (.inr (va_up (va_up (va_up (va_up (fun _ => none) 0 (some q12)) 1 (some q13)) 2 (some q14)) 3 (some q15))))))), (q3, .inl (ta 6, 9, .inr (.inr (.inr (.inr (va_up (va_up (va_up (fun _ => none) 0 (some q16)) 1 (some q17)) 2 (some q18)))))))] ++ (T_16 ++ dh_sg ta sg_Tale dh_z (q19 :: (List.range 2).map fq19))) H_361 := by rw [← List.append_assoc]; exact hP_364
  have hDj : va_D A ([(h0, .inr (10, [.ref q1, .ref q2, .ref q3, .ref q4, .ref q5, .ref q6, .ref q7, .ref q8, .ref q9, .ref q10, .ref q11, .int 0, .int 1, .int 1])), (q2, .inl (ta 5, 4, .inr (.inr (.inr (.inr (va_up (va_up (va_up (va_up (fun _ => none) 0 (some q12)) 1 (some q13)) 2 (some q14)) 3 (some q15))))))), (q3, .inl (ta 6, 9, .inr (.inr (.inr (.inr (va_up (va_up (va_up (fun _ => none) 0 (some q16)) 1 (some q17)) 2 (some q18)))))))] ++ (T_16 ++ dh_sg ta sg_Tale dh_z (q19 :: (List.range 2).map fq19))) := by rw [← List.append_assoc]; exact hD_365
  clear hP_364 hD_365
  obtain ⟨T_17, eT_17⟩ : ∃ z, z = T_16 ++ dh_sg ta sg_Tale dh_z (q19 :: (List.range 2).map fq19) := ⟨_, rfl⟩
  rw [← eT_17] at hPj hDj
  have hlen_17 : T_17.length = 129 := by rw [eT_17, List.length_append, hlen_16]; rfl
  have hP_366 := hPj
  have hD_367 := hDj
  clear hPj hDj
  refine W.widen (k := 131) (n := 27291) (Nat.le_of_ble_eq_true rfl) (Nat.le_of_ble_eq_true rfl) ?_
  obtain ⟨vs, rr, ehd⟩ := dh_hd_Tale ta q19 ((List.range 2).map fq19)
  have hvv : ([(h0, .inr (10, [.ref q1, .ref q2, .ref q3, .ref q4, .ref q5, .ref q6, .ref q7, .ref q8, .ref q9, .ref q10, .ref q11, .int 0, .int 1, .int 1])), (q2, .inl (ta 5, 4, .inr (.inr (.inr (.inr (va_up (va_up (va_up (va_up (fun _ => none) 0 (some q12)) 1 (some q13)) 2 (some q14)) 3 (some q15))))))), (q3, .inl (ta 6, 9, .inr (.inr (.inr (.inr (va_up (va_up (va_up (fun _ => none) 0 (some q16)) 1 (some q17)) 2 (some q18)))))))] ++ T_17)[3 + 126]? = some (q19, .inr (7, vs)) := by rw [eT_17, ehd]; exact dh_at3 hlen_16
  refine va_astq (D := D) (r := (RX7, TX7, 5)) hx hb hK hP_366 hD_367 hS_363 2 5 (3 + 126) 7 rfl rfl hvv rfl (i := 3) (vp_in_iff.mpr (by decide)) di_Heap_181 (fun H_368 locs_369 hP_370 hD_371 hS_372 => ?_)
  clear hP_366 hD_367 hS_363
  clear hvv ehd
  have hP_373 : va_P D vwCl ([(h0, .inr (10, [.ref q1, .ref q2, .ref q3, .ref q4, .ref q5, .ref q6, .ref q7, .ref q8, .ref q9, .ref q10, .ref q11, .int 0, .int 1, .int 1])), (q2, .inl (ta 5, 4, .inr (.inr (.inr (.inr (va_up (va_up (va_up (va_up (fun _ => none) 0 (some q12)) 1 (some q13)) 2 (some q14)) 3 (some q15))))))), (q3, .inl (ta 6, 9, .inr (.inr (.inr (.inr (va_up (va_up (va_up (va_up (fun _ => none) 0 (some q16)) 1 (some q17)) 2 (some q18)) 3 (some q19)))))))] ++ T_17) H_368 := hP_370
  clear hP_370
  have hD_374 : va_D A ([(h0, .inr (10, [.ref q1, .ref q2, .ref q3, .ref q4, .ref q5, .ref q6, .ref q7, .ref q8, .ref q9, .ref q10, .ref q11, .int 0, .int 1, .int 1])), (q2, .inl (ta 5, 4, .inr (.inr (.inr (.inr (va_up (va_up (va_up (va_up (fun _ => none) 0 (some q12)) 1 (some q13)) 2 (some q14)) 3 (some q15))))))), (q3, .inl (ta 6, 9, .inr (.inr (.inr (.inr (va_up (va_up (va_up (va_up (fun _ => none) 0 (some q16)) 1 (some q17)) 2 (some q18)) 3 (some q19)))))))] ++ T_17) := hD_371
  clear hD_371
  refine lv_iinc (v := 4) (lv' := [(1, .int 4), (0, .ref h0)]) hx hb di_Heap_182 hl (k := 0) rfl (by decide) (by decide) rfl (fun ls hl => ?_)
  refine lv_goto (tgt := 163) hx hb di_Heap_185 (by decide) ?_
  refine lv_iload_n hx hb di_Heap_163 rfl (lv_at hl 0 rfl) ?_
  refine lv_bipush (v := 9) hx hb di_Heap_164 (by decide) ?_
  refine lv_icmp_ge (tgt := 188) hx hb di_Heap_166 (by decide) (fun c9 => absurd c9 (by decide)) (fun c9 => ?_)
  clear c9
  refine lv_aload_n hx hb di_Heap_169 rfl (lv_at hl 1 rfl) ?_
  refine va_get (D := D) (ci := 10) (v := .ref q3) (C := RX10) (T := TX10) (N := 14) hx hb hts dh_u10 hown hK hP_373 0 rfl rfl 2 (by decide) (hts (.fieldLink RX10 24 RX10 "tales" "[LDoubleHeap$Tale;") (dh_has_in (i := 419) (by decide +kernel))) (fun _ h9 => h9) rfl di_Heap_170 ?_
  refine lv_iload_n hx hb di_Heap_173 rfl (lv_at hl 0 rfl) ?_
  refine va_new (ci := 7) (fs := [.int 0, .int 0, .int 0, .null, .null]) (C := RX7) (T := TX7) (N := 5) hx hb hts dh_u7 tyX7 tyX7_ok hown (hts (.classLink RX10 22 RX7) (dh_has_in (i := 192) (by decide +kernel))) (hts (.instantiable RX7 5) (dh_has_in (i := 257) (by decide +kernel))) (hts (.initialized RX7) (dh_has_in (i := 155) (by decide +kernel))) hK hP_373 hD_374 hS_372 hA rfl (by decide +kernel) (Nat.le_of_ble_eq_true rfl) (Nat.le_of_ble_eq_true rfl) di_Heap_174 (fun q20 H_375 hP_376 hD_377 hS_378 => ?_)
  clear hP_373 hD_374 hS_372
  refine lv_dup hx hb di_Heap_177 rfl ?_
  have hPc : va_P D vwCl [(q20, .inr (7, [.int 0, .int 0, .int 0, .null, .null]))] H_375 := dh_Pr hP_376
  have hDc : va_D A [(q20, .inr (7, [.int 0, .int 0, .int 0, .null, .null]))] := dh_Dr hD_377
  have hFc := dh_Fr (wc := [(q20, .inr (7, [.int 0, .int 0, .int 0, .null, .null]))]) hD_377 hS_378 hA
  refine va_callv (va_runIN (As := []) (rest := [.ref q20, .int 4, .ref q3]) ⟨hx, hb, hml, hown, hts⟩ (k_Tale l D ta q20 H_375.size) ⟨va_cnB (host := "DoubleHeap") 0 hts gwi_Tale rfl rfl rfl (hN _ (dh_hasN_in (i := 258) (by decide +kernel) rfl)) (hts (.initialized RX7) (dh_has_in (i := 155) (by decide +kernel))) (by decide +kernel) ⟨Nat.le_of_ble_eq_true rfl, Nat.le_of_ble_eq_true rfl⟩, rfl, hts (.instanceMethod yi_Tale) (dh_has_in (i := 259) (by decide +kernel))⟩ ⟨dh_Pi_blind, fun U hU hW => ⟨rfl, by rw [hU], by rw [hU]; exact hPc, va_K.moved hW.alike hK, hDc.weaken (fun _ _ _ _ => trivial), hN.warm hW, hO.moved hW.alike⟩⟩ rfl rfl hl.1 rfl (lv_room (Nat.le_of_ble_eq_true rfl)) di_Heap_178 ⟨Nat.le_of_ble_eq_true rfl, Nat.le_of_ble_eq_true rfl⟩) hS_378 (fun q _ h => hFc q h) hFc (fun u t H_380 locs_381 ht hvm hw hB hz1 hk1 hS_382 => ?_)
  clear hS_378
  obtain ⟨hPx, hDx⟩ := hB
  rw [ht] at hPx
  obtain ⟨fq20, rfl⟩ := dh_lenf hw
  obtain ⟨hP_383, hD_384⟩ := dh_joinA hP_376 hD_377 hk1 hFc hPx hDx
  clear hP_376 hD_377
  clear hPc hDc hFc hPx hDx hk1 hz1 hw ht hvm
  have hPj : va_P D vwCl ([(h0, .inr (10, [.ref q1, .ref q2, .ref q3, .ref q4, .ref q5, .ref q6, .ref q7, .ref q8, .ref q9, .ref q10, .ref q11, .int 0, .int 1, .int 1])), (q2, .inl (ta 5, 4, .inr (.inr (.inr (.inr (va_up (va_up (va_up (va_up (fun _ => none) 0 (some q12)) 1 (some q13)) 2 (some q14)) 3 (some q15))))))), (q3, .inl (ta 6, 9, .inr (.inr (.inr (.inr (va_up (va_up (va_up (va_up (fun _ => none) 0 (some q16)) 1 (some q17)) 2 (some q18)) 3 (some q19)))))))] ++ (T_17 ++ dh_sg ta sg_Tale dh_z (q20 :: (List.range 2).map fq20))) H_380 := by rw [← List.append_assoc]; exact hP_383
  have hDj : va_D A ([(h0, .inr (10, [.ref q1, .ref q2, .ref q3, .ref q4, .ref q5, .ref q6, .ref q7, .ref q8, .ref q9, .ref q10, .ref q11, .int 0, .int 1, .int 1])), (q2, .inl (ta 5, 4, .inr (.inr (.inr (.inr (va_up (va_up (va_up (va_up (fun _ => none) 0 (some q12)) 1 (some q13)) 2 (some q14)) 3 (some q15))))))), (q3, .inl (ta 6, 9, .inr (.inr (.inr (.inr (va_up (va_up (va_up (va_up (fun _ => none) 0 (some q16)) 1 (some q17)) 2 (some q18)) 3 (some q19)))))))] ++ (T_17 ++ dh_sg ta sg_Tale dh_z (q20 :: (List.range 2).map fq20))) := by rw [← List.append_assoc]; exact hD_384
  clear hP_383 hD_384
  obtain ⟨T_18, eT_18⟩ : ∃ z, z = T_17 ++ dh_sg ta sg_Tale dh_z (q20 :: (List.range 2).map fq20) := ⟨_, rfl⟩
  rw [← eT_18] at hPj hDj
  have hlen_18 : T_18.length = 132 := by rw [eT_18, List.length_append, hlen_17]; rfl
  have hP_385 := hPj
  have hD_386 := hDj
  clear hPj hDj
  refine W.widen (k := 134) (n := 27376) (Nat.le_of_ble_eq_true rfl) (Nat.le_of_ble_eq_true rfl) ?_
  obtain ⟨vs, rr, ehd⟩ := dh_hd_Tale ta q20 ((List.range 2).map fq20)
  have hvv : ([(h0, .inr (10, [.ref q1, .ref q2, .ref q3, .ref q4, .ref q5, .ref q6, .ref q7, .ref q8, .ref q9, .ref q10, .ref q11, .int 0, .int 1, .int 1])), (q2, .inl (ta 5, 4, .inr (.inr (.inr (.inr (va_up (va_up (va_up (va_up (fun _ => none) 0 (some q12)) 1 (some q13)) 2 (some q14)) 3 (some q15))))))), (q3, .inl (ta 6, 9, .inr (.inr (.inr (.inr (va_up (va_up (va_up (va_up (fun _ => none) 0 (some q16)) 1 (some q17)) 2 (some q18)) 3 (some q19)))))))] ++ T_18)[3 + 129]? = some (q20, .inr (7, vs)) := by rw [eT_18, ehd]; exact dh_at3 hlen_17
  refine va_astq (D := D) (r := (RX7, TX7, 5)) hx hb hK hP_385 hD_386 hS_382 2 5 (3 + 129) 7 rfl rfl hvv rfl (i := 4) (vp_in_iff.mpr (by decide)) di_Heap_181 (fun H_387 locs_388 hP_389 hD_390 hS_391 => ?_)
  clear hP_385 hD_386 hS_382
  clear hvv ehd
  have hP_392 : va_P D vwCl ([(h0, .inr (10, [.ref q1, .ref q2, .ref q3, .ref q4, .ref q5, .ref q6, .ref q7, .ref q8, .ref q9, .ref q10, .ref q11, .int 0, .int 1, .int 1])), (q2, .inl (ta 5, 4, .inr (.inr (.inr (.inr (va_up (va_up (va_up (va_up (fun _ => none) 0 (some q12)) 1 (some q13)) 2 (some q14)) 3 (some q15))))))), (q3, .inl (ta 6, 9, .inr (.inr (.inr (.inr (va_up (va_up (va_up (va_up (va_up (fun _ => none) 0 (some q16)) 1 (some q17)) 2 (some q18)) 3 (some q19)) 4 (some q20)))))))] ++ T_18) H_387 := hP_389
  clear hP_389
  have hD_393 : va_D A ([(h0, .inr (10, [.ref q1, .ref q2, .ref q3, .ref q4, .ref q5, .ref q6, .ref q7, .ref q8, .ref q9, .ref q10, .ref q11, .int 0, .int 1, .int 1])), (q2, .inl (ta 5, 4, .inr (.inr (.inr (.inr (va_up (va_up (va_up (va_up (fun _ => none) 0 (some q12)) 1 (some q13)) 2 (some q14)) 3 (some q15))))))), (q3, .inl (ta 6, 9, .inr (.inr (.inr (.inr (va_up (va_up (va_up (va_up (va_up (fun _ => none) 0 (some q16)) 1 (some q17)) 2 (some q18)) 3 (some q19)) 4 (some q20)))))))] ++ T_18) := hD_390
  clear hD_390
  refine lv_iinc (v := 5) (lv' := [(1, .int 5), (0, .ref h0)]) hx hb di_Heap_182 hl (k := 0) rfl (by decide) (by decide) rfl (fun ls hl => ?_)
  refine lv_goto (tgt := 163) hx hb di_Heap_185 (by decide) ?_
  refine lv_iload_n hx hb di_Heap_163 rfl (lv_at hl 0 rfl) ?_
  refine lv_bipush (v := 9) hx hb di_Heap_164 (by decide) ?_
  refine lv_icmp_ge (tgt := 188) hx hb di_Heap_166 (by decide) (fun c9 => absurd c9 (by decide)) (fun c9 => ?_)
  clear c9
  refine lv_aload_n hx hb di_Heap_169 rfl (lv_at hl 1 rfl) ?_
  refine va_get (D := D) (ci := 10) (v := .ref q3) (C := RX10) (T := TX10) (N := 14) hx hb hts dh_u10 hown hK hP_392 0 rfl rfl 2 (by decide) (hts (.fieldLink RX10 24 RX10 "tales" "[LDoubleHeap$Tale;") (dh_has_in (i := 419) (by decide +kernel))) (fun _ h9 => h9) rfl di_Heap_170 ?_
  refine lv_iload_n hx hb di_Heap_173 rfl (lv_at hl 0 rfl) ?_
  refine va_new (ci := 7) (fs := [.int 0, .int 0, .int 0, .null, .null]) (C := RX7) (T := TX7) (N := 5) hx hb hts dh_u7 tyX7 tyX7_ok hown (hts (.classLink RX10 22 RX7) (dh_has_in (i := 192) (by decide +kernel))) (hts (.instantiable RX7 5) (dh_has_in (i := 257) (by decide +kernel))) (hts (.initialized RX7) (dh_has_in (i := 155) (by decide +kernel))) hK hP_392 hD_393 hS_391 hA rfl (by decide +kernel) (Nat.le_of_ble_eq_true rfl) (Nat.le_of_ble_eq_true rfl) di_Heap_174 (fun q21 H_394 hP_395 hD_396 hS_397 => ?_)
  clear hP_392 hD_393 hS_391
  refine lv_dup hx hb di_Heap_177 rfl ?_
  have hPc : va_P D vwCl [(q21, .inr (7, [.int 0, .int 0, .int 0, .null, .null]))] H_394 := dh_Pr hP_395
  have hDc : va_D A [(q21, .inr (7, [.int 0, .int 0, .int 0, .null, .null]))] := dh_Dr hD_396
  have hFc := dh_Fr (wc := [(q21, .inr (7, [.int 0, .int 0, .int 0, .null, .null]))]) hD_396 hS_397 hA
  refine va_callv (va_runIN (As := []) (rest := [.ref q21, .int 5, .ref q3]) ⟨hx, hb, hml, hown, hts⟩ (k_Tale l D ta q21 H_394.size) ⟨va_cnB (host := "DoubleHeap") 0 hts gwi_Tale rfl rfl rfl (hN _ (dh_hasN_in (i := 258) (by decide +kernel) rfl)) (hts (.initialized RX7) (dh_has_in (i := 155) (by decide +kernel))) (by decide +kernel) ⟨Nat.le_of_ble_eq_true rfl, Nat.le_of_ble_eq_true rfl⟩, rfl, hts (.instanceMethod yi_Tale) (dh_has_in (i := 259) (by decide +kernel))⟩ ⟨dh_Pi_blind, fun U hU hW => ⟨rfl, by rw [hU], by rw [hU]; exact hPc, va_K.moved hW.alike hK, hDc.weaken (fun _ _ _ _ => trivial), hN.warm hW, hO.moved hW.alike⟩⟩ rfl rfl hl.1 rfl (lv_room (Nat.le_of_ble_eq_true rfl)) di_Heap_178 ⟨Nat.le_of_ble_eq_true rfl, Nat.le_of_ble_eq_true rfl⟩) hS_397 (fun q _ h => hFc q h) hFc (fun u t H_399 locs_400 ht hvm hw hB hz1 hk1 hS_401 => ?_)
  clear hS_397
  obtain ⟨hPx, hDx⟩ := hB
  rw [ht] at hPx
  obtain ⟨fq21, rfl⟩ := dh_lenf hw
  obtain ⟨hP_402, hD_403⟩ := dh_joinA hP_395 hD_396 hk1 hFc hPx hDx
  clear hP_395 hD_396
  clear hPc hDc hFc hPx hDx hk1 hz1 hw ht hvm
  have hPj : va_P D vwCl ([(h0, .inr (10, [.ref q1, .ref q2, .ref q3, .ref q4, .ref q5, .ref q6, .ref q7, .ref q8, .ref q9, .ref q10, .ref q11, .int 0, .int 1, .int 1])), (q2, .inl (ta 5, 4, .inr (.inr (.inr (.inr (va_up (va_up (va_up (va_up (fun _ => none) 0 (some q12)) 1 (some q13)) 2 (some q14)) 3 (some q15))))))), (q3, .inl (ta 6, 9, .inr (.inr (.inr (.inr (va_up (va_up (va_up (va_up (va_up (fun _ => none) 0 (some q16)) 1 (some q17)) 2 (some q18)) 3 (some q19)) 4 (some q20)))))))] ++ (T_18 ++ dh_sg ta sg_Tale dh_z (q21 :: (List.range 2).map fq21))) H_399 := by rw [← List.append_assoc]; exact hP_402
  have hDj : va_D A ([(h0, .inr (10, [.ref q1, .ref q2, .ref q3, .ref q4, .ref q5, .ref q6, .ref q7, .ref q8, .ref q9, .ref q10, .ref q11, .int 0, .int 1, .int 1])), (q2, .inl (ta 5, 4, .inr (.inr (.inr (.inr (va_up (va_up (va_up (va_up (fun _ => none) 0 (some q12)) 1 (some q13)) 2 (some q14)) 3 (some q15))))))), (q3, .inl (ta 6, 9, .inr (.inr (.inr (.inr (va_up (va_up (va_up (va_up (va_up (fun _ => none) 0 (some q16)) 1 (some q17)) 2 (some q18)) 3 (some q19)) 4 (some q20)))))))] ++ (T_18 ++ dh_sg ta sg_Tale dh_z (q21 :: (List.range 2).map fq21))) := by rw [← List.append_assoc]; exact hD_403
  clear hP_402 hD_403
  obtain ⟨T_19, eT_19⟩ : ∃ z, z = T_18 ++ dh_sg ta sg_Tale dh_z (q21 :: (List.range 2).map fq21) := ⟨_, rfl⟩
  rw [← eT_19] at hPj hDj
  have hlen_19 : T_19.length = 135 := by rw [eT_19, List.length_append, hlen_18]; rfl
  have hP_404 := hPj
  have hD_405 := hDj
  clear hPj hDj
  refine W.widen (k := 137) (n := 27461) (Nat.le_of_ble_eq_true rfl) (Nat.le_of_ble_eq_true rfl) ?_
  obtain ⟨vs, rr, ehd⟩ := dh_hd_Tale ta q21 ((List.range 2).map fq21)
  have hvv : ([(h0, .inr (10, [.ref q1, .ref q2, .ref q3, .ref q4, .ref q5, .ref q6, .ref q7, .ref q8, .ref q9, .ref q10, .ref q11, .int 0, .int 1, .int 1])), (q2, .inl (ta 5, 4, .inr (.inr (.inr (.inr (va_up (va_up (va_up (va_up (fun _ => none) 0 (some q12)) 1 (some q13)) 2 (some q14)) 3 (some q15))))))), (q3, .inl (ta 6, 9, .inr (.inr (.inr (.inr (va_up (va_up (va_up (va_up (va_up (fun _ => none) 0 (some q16)) 1 (some q17)) 2 (some q18)) 3 (some q19)) 4 (some q20)))))))] ++ T_19)[3 + 132]? = some (q21, .inr (7, vs)) := by rw [eT_19, ehd]; exact dh_at3 hlen_18
  refine va_astq (D := D) (r := (RX7, TX7, 5)) hx hb hK hP_404 hD_405 hS_401 2 5 (3 + 132) 7 rfl rfl hvv rfl (i := 5) (vp_in_iff.mpr (by decide)) di_Heap_181 (fun H_406 locs_407 hP_408 hD_409 hS_410 => ?_)
  clear hP_404 hD_405 hS_401
  clear hvv ehd
  have hP_411 : va_P D vwCl ([(h0, .inr (10, [.ref q1, .ref q2, .ref q3, .ref q4, .ref q5, .ref q6, .ref q7, .ref q8, .ref q9, .ref q10, .ref q11, .int 0, .int 1, .int 1])), (q2, .inl (ta 5, 4, .inr (.inr (.inr (.inr (va_up (va_up (va_up (va_up (fun _ => none) 0 (some q12)) 1 (some q13)) 2 (some q14)) 3 (some q15))))))), (q3, .inl (ta 6, 9, .inr (.inr (.inr (.inr (va_up (va_up (va_up (va_up (va_up (va_up (fun _ => none) 0 (some q16)) 1 (some q17)) 2 (some q18)) 3 (some q19)) 4 (some q20)) 5 (some q21)))))))] ++ T_19) H_406 := hP_408
  clear hP_408
  have hD_412 : va_D A ([(h0, .inr (10, [.ref q1, .ref q2, .ref q3, .ref q4, .ref q5, .ref q6, .ref q7, .ref q8, .ref q9, .ref q10, .ref q11, .int 0, .int 1, .int 1])), (q2, .inl (ta 5, 4, .inr (.inr (.inr (.inr (va_up (va_up (va_up (va_up (fun _ => none) 0 (some q12)) 1 (some q13)) 2 (some q14)) 3 (some q15))))))), (q3, .inl (ta 6, 9, .inr (.inr (.inr (.inr (va_up (va_up (va_up (va_up (va_up (va_up (fun _ => none) 0 (some q16)) 1 (some q17)) 2 (some q18)) 3 (some q19)) 4 (some q20)) 5 (some q21)))))))] ++ T_19) := hD_409
  clear hD_409
  refine lv_iinc (v := 6) (lv' := [(1, .int 6), (0, .ref h0)]) hx hb di_Heap_182 hl (k := 0) rfl (by decide) (by decide) rfl (fun ls hl => ?_)
  refine lv_goto (tgt := 163) hx hb di_Heap_185 (by decide) ?_
  refine lv_iload_n hx hb di_Heap_163 rfl (lv_at hl 0 rfl) ?_
  refine lv_bipush (v := 9) hx hb di_Heap_164 (by decide) ?_
  refine lv_icmp_ge (tgt := 188) hx hb di_Heap_166 (by decide) (fun c9 => absurd c9 (by decide)) (fun c9 => ?_)
  clear c9
  refine lv_aload_n hx hb di_Heap_169 rfl (lv_at hl 1 rfl) ?_
  refine va_get (D := D) (ci := 10) (v := .ref q3) (C := RX10) (T := TX10) (N := 14) hx hb hts dh_u10 hown hK hP_411 0 rfl rfl 2 (by decide) (hts (.fieldLink RX10 24 RX10 "tales" "[LDoubleHeap$Tale;") (dh_has_in (i := 419) (by decide +kernel))) (fun _ h9 => h9) rfl di_Heap_170 ?_
  refine lv_iload_n hx hb di_Heap_173 rfl (lv_at hl 0 rfl) ?_
  refine va_new (ci := 7) (fs := [.int 0, .int 0, .int 0, .null, .null]) (C := RX7) (T := TX7) (N := 5) hx hb hts dh_u7 tyX7 tyX7_ok hown (hts (.classLink RX10 22 RX7) (dh_has_in (i := 192) (by decide +kernel))) (hts (.instantiable RX7 5) (dh_has_in (i := 257) (by decide +kernel))) (hts (.initialized RX7) (dh_has_in (i := 155) (by decide +kernel))) hK hP_411 hD_412 hS_410 hA rfl (by decide +kernel) (Nat.le_of_ble_eq_true rfl) (Nat.le_of_ble_eq_true rfl) di_Heap_174 (fun q22 H_413 hP_414 hD_415 hS_416 => ?_)
  clear hP_411 hD_412 hS_410
  refine lv_dup hx hb di_Heap_177 rfl ?_
  have hPc : va_P D vwCl [(q22, .inr (7, [.int 0, .int 0, .int 0, .null, .null]))] H_413 := dh_Pr hP_414
  have hDc : va_D A [(q22, .inr (7, [.int 0, .int 0, .int 0, .null, .null]))] := dh_Dr hD_415
  have hFc := dh_Fr (wc := [(q22, .inr (7, [.int 0, .int 0, .int 0, .null, .null]))]) hD_415 hS_416 hA
  refine va_callv (va_runIN (As := []) (rest := [.ref q22, .int 6, .ref q3]) ⟨hx, hb, hml, hown, hts⟩ (k_Tale l D ta q22 H_413.size) ⟨va_cnB (host := "DoubleHeap") 0 hts gwi_Tale rfl rfl rfl (hN _ (dh_hasN_in (i := 258) (by decide +kernel) rfl)) (hts (.initialized RX7) (dh_has_in (i := 155) (by decide +kernel))) (by decide +kernel) ⟨Nat.le_of_ble_eq_true rfl, Nat.le_of_ble_eq_true rfl⟩, rfl, hts (.instanceMethod yi_Tale) (dh_has_in (i := 259) (by decide +kernel))⟩ ⟨dh_Pi_blind, fun U hU hW => ⟨rfl, by rw [hU], by rw [hU]; exact hPc, va_K.moved hW.alike hK, hDc.weaken (fun _ _ _ _ => trivial), hN.warm hW, hO.moved hW.alike⟩⟩ rfl rfl hl.1 rfl (lv_room (Nat.le_of_ble_eq_true rfl)) di_Heap_178 ⟨Nat.le_of_ble_eq_true rfl, Nat.le_of_ble_eq_true rfl⟩) hS_416 (fun q _ h => hFc q h) hFc (fun u t H_418 locs_419 ht hvm hw hB hz1 hk1 hS_420 => ?_)
  clear hS_416
  obtain ⟨hPx, hDx⟩ := hB
  rw [ht] at hPx
  obtain ⟨fq22, rfl⟩ := dh_lenf hw
  obtain ⟨hP_421, hD_422⟩ := dh_joinA hP_414 hD_415 hk1 hFc hPx hDx
  clear hP_414 hD_415
  clear hPc hDc hFc hPx hDx hk1 hz1 hw ht hvm
  have hPj : va_P D vwCl ([(h0, .inr (10, [.ref q1, .ref q2, .ref q3, .ref q4, .ref q5, .ref q6, .ref q7, .ref q8, .ref q9, .ref q10, .ref q11, .int 0, .int 1, .int 1])), (q2, .inl (ta 5, 4, .inr (.inr (.inr (.inr (va_up (va_up (va_up (va_up (fun _ => none) 0 (some q12)) 1 (some q13)) 2 (some q14)) 3 (some q15))))))), (q3, .inl (ta 6, 9, .inr (.inr (.inr (.inr (va_up (va_up (va_up (va_up (va_up (va_up (fun _ => none) 0 (some q16)) 1 (some q17)) 2 (some q18)) 3 (some q19)) 4 (some q20)) 5 (some q21)))))))] ++ (T_19 ++ dh_sg ta sg_Tale dh_z (q22 :: (List.range 2).map fq22))) H_418 := by rw [← List.append_assoc]; exact hP_421
  have hDj : va_D A ([(h0, .inr (10, [.ref q1, .ref q2, .ref q3, .ref q4, .ref q5, .ref q6, .ref q7, .ref q8, .ref q9, .ref q10, .ref q11, .int 0, .int 1, .int 1])), (q2, .inl (ta 5, 4, .inr (.inr (.inr (.inr (va_up (va_up (va_up (va_up (fun _ => none) 0 (some q12)) 1 (some q13)) 2 (some q14)) 3 (some q15))))))), (q3, .inl (ta 6, 9, .inr (.inr (.inr (.inr (va_up (va_up (va_up (va_up (va_up (va_up (fun _ => none) 0 (some q16)) 1 (some q17)) 2 (some q18)) 3 (some q19)) 4 (some q20)) 5 (some q21)))))))] ++ (T_19 ++ dh_sg ta sg_Tale dh_z (q22 :: (List.range 2).map fq22))) := by rw [← List.append_assoc]; exact hD_422
  clear hP_421 hD_422
  obtain ⟨T_20, eT_20⟩ : ∃ z, z = T_19 ++ dh_sg ta sg_Tale dh_z (q22 :: (List.range 2).map fq22) := ⟨_, rfl⟩
  rw [← eT_20] at hPj hDj
  have hlen_20 : T_20.length = 138 := by rw [eT_20, List.length_append, hlen_19]; rfl
  have hP_423 := hPj
  have hD_424 := hDj
  clear hPj hDj
  refine W.widen (k := 140) (n := 27546) (Nat.le_of_ble_eq_true rfl) (Nat.le_of_ble_eq_true rfl) ?_
  obtain ⟨vs, rr, ehd⟩ := dh_hd_Tale ta q22 ((List.range 2).map fq22)
  have hvv : ([(h0, .inr (10, [.ref q1, .ref q2, .ref q3, .ref q4, .ref q5, .ref q6, .ref q7, .ref q8, .ref q9, .ref q10, .ref q11, .int 0, .int 1, .int 1])), (q2, .inl (ta 5, 4, .inr (.inr (.inr (.inr (va_up (va_up (va_up (va_up (fun _ => none) 0 (some q12)) 1 (some q13)) 2 (some q14)) 3 (some q15))))))), (q3, .inl (ta 6, 9, .inr (.inr (.inr (.inr (va_up (va_up (va_up (va_up (va_up (va_up (fun _ => none) 0 (some q16)) 1 (some q17)) 2 (some q18)) 3 (some q19)) 4 (some q20)) 5 (some q21)))))))] ++ T_20)[3 + 135]? = some (q22, .inr (7, vs)) := by rw [eT_20, ehd]; exact dh_at3 hlen_19
  refine va_astq (D := D) (r := (RX7, TX7, 5)) hx hb hK hP_423 hD_424 hS_420 2 5 (3 + 135) 7 rfl rfl hvv rfl (i := 6) (vp_in_iff.mpr (by decide)) di_Heap_181 (fun H_425 locs_426 hP_427 hD_428 hS_429 => ?_)
  clear hP_423 hD_424 hS_420
  clear hvv ehd
  have hP_430 : va_P D vwCl ([(h0, .inr (10, [.ref q1, .ref q2, .ref q3, .ref q4, .ref q5, .ref q6, .ref q7, .ref q8, .ref q9, .ref q10, .ref q11, .int 0, .int 1, .int 1])), (q2, .inl (ta 5, 4, .inr (.inr (.inr (.inr (va_up (va_up (va_up (va_up (fun _ => none) 0 (some q12)) 1 (some q13)) 2 (some q14)) 3 (some q15))))))), (q3, .inl (ta 6, 9, .inr (.inr (.inr (.inr (va_up (va_up (va_up (va_up (va_up (va_up (va_up (fun _ => none) 0 (some q16)) 1 (some q17)) 2 (some q18)) 3 (some q19)) 4 (some q20)) 5 (some q21)) 6 (some q22)))))))] ++ T_20) H_425 := hP_427
  clear hP_427
  have hD_431 : va_D A ([(h0, .inr (10, [.ref q1, .ref q2, .ref q3, .ref q4, .ref q5, .ref q6, .ref q7, .ref q8, .ref q9, .ref q10, .ref q11, .int 0, .int 1, .int 1])), (q2, .inl (ta 5, 4, .inr (.inr (.inr (.inr (va_up (va_up (va_up (va_up (fun _ => none) 0 (some q12)) 1 (some q13)) 2 (some q14)) 3 (some q15))))))), (q3, .inl (ta 6, 9, .inr (.inr (.inr (.inr (va_up (va_up (va_up (va_up (va_up (va_up (va_up (fun _ => none) 0 (some q16)) 1 (some q17)) 2 (some q18)) 3 (some q19)) 4 (some q20)) 5 (some q21)) 6 (some q22)))))))] ++ T_20) := hD_428
  clear hD_428
  refine lv_iinc (v := 7) (lv' := [(1, .int 7), (0, .ref h0)]) hx hb di_Heap_182 hl (k := 0) rfl (by decide) (by decide) rfl (fun ls hl => ?_)
  refine lv_goto (tgt := 163) hx hb di_Heap_185 (by decide) ?_
  refine lv_iload_n hx hb di_Heap_163 rfl (lv_at hl 0 rfl) ?_
  refine lv_bipush (v := 9) hx hb di_Heap_164 (by decide) ?_
  refine lv_icmp_ge (tgt := 188) hx hb di_Heap_166 (by decide) (fun c9 => absurd c9 (by decide)) (fun c9 => ?_)
  clear c9
  refine lv_aload_n hx hb di_Heap_169 rfl (lv_at hl 1 rfl) ?_
  refine va_get (D := D) (ci := 10) (v := .ref q3) (C := RX10) (T := TX10) (N := 14) hx hb hts dh_u10 hown hK hP_430 0 rfl rfl 2 (by decide) (hts (.fieldLink RX10 24 RX10 "tales" "[LDoubleHeap$Tale;") (dh_has_in (i := 419) (by decide +kernel))) (fun _ h9 => h9) rfl di_Heap_170 ?_
  refine lv_iload_n hx hb di_Heap_173 rfl (lv_at hl 0 rfl) ?_
  refine va_new (ci := 7) (fs := [.int 0, .int 0, .int 0, .null, .null]) (C := RX7) (T := TX7) (N := 5) hx hb hts dh_u7 tyX7 tyX7_ok hown (hts (.classLink RX10 22 RX7) (dh_has_in (i := 192) (by decide +kernel))) (hts (.instantiable RX7 5) (dh_has_in (i := 257) (by decide +kernel))) (hts (.initialized RX7) (dh_has_in (i := 155) (by decide +kernel))) hK hP_430 hD_431 hS_429 hA rfl (by decide +kernel) (Nat.le_of_ble_eq_true rfl) (Nat.le_of_ble_eq_true rfl) di_Heap_174 (fun q23 H_432 hP_433 hD_434 hS_435 => ?_)
  clear hP_430 hD_431 hS_429
  refine lv_dup hx hb di_Heap_177 rfl ?_
  have hPc : va_P D vwCl [(q23, .inr (7, [.int 0, .int 0, .int 0, .null, .null]))] H_432 := dh_Pr hP_433
  have hDc : va_D A [(q23, .inr (7, [.int 0, .int 0, .int 0, .null, .null]))] := dh_Dr hD_434
  have hFc := dh_Fr (wc := [(q23, .inr (7, [.int 0, .int 0, .int 0, .null, .null]))]) hD_434 hS_435 hA
  refine va_callv (va_runIN (As := []) (rest := [.ref q23, .int 7, .ref q3]) ⟨hx, hb, hml, hown, hts⟩ (k_Tale l D ta q23 H_432.size) ⟨va_cnB (host := "DoubleHeap") 0 hts gwi_Tale rfl rfl rfl (hN _ (dh_hasN_in (i := 258) (by decide +kernel) rfl)) (hts (.initialized RX7) (dh_has_in (i := 155) (by decide +kernel))) (by decide +kernel) ⟨Nat.le_of_ble_eq_true rfl, Nat.le_of_ble_eq_true rfl⟩, rfl, hts (.instanceMethod yi_Tale) (dh_has_in (i := 259) (by decide +kernel))⟩ ⟨dh_Pi_blind, fun U hU hW => ⟨rfl, by rw [hU], by rw [hU]; exact hPc, va_K.moved hW.alike hK, hDc.weaken (fun _ _ _ _ => trivial), hN.warm hW, hO.moved hW.alike⟩⟩ rfl rfl hl.1 rfl (lv_room (Nat.le_of_ble_eq_true rfl)) di_Heap_178 ⟨Nat.le_of_ble_eq_true rfl, Nat.le_of_ble_eq_true rfl⟩) hS_435 (fun q _ h => hFc q h) hFc (fun u t H_437 locs_438 ht hvm hw hB hz1 hk1 hS_439 => ?_)
  clear hS_435
  obtain ⟨hPx, hDx⟩ := hB
  rw [ht] at hPx
  obtain ⟨fq23, rfl⟩ := dh_lenf hw
  obtain ⟨hP_440, hD_441⟩ := dh_joinA hP_433 hD_434 hk1 hFc hPx hDx
  clear hP_433 hD_434
  clear hPc hDc hFc hPx hDx hk1 hz1 hw ht hvm
  have hPj : va_P D vwCl ([(h0, .inr (10, [.ref q1, .ref q2, .ref q3, .ref q4, .ref q5, .ref q6, .ref q7, .ref q8, .ref q9, .ref q10, .ref q11, .int 0, .int 1, .int 1])), (q2, .inl (ta 5, 4, .inr (.inr (.inr (.inr (va_up (va_up (va_up (va_up (fun _ => none) 0 (some q12)) 1 (some q13)) 2 (some q14)) 3 (some q15))))))), (q3, .inl (ta 6, 9, .inr (.inr (.inr (.inr (va_up (va_up (va_up (va_up (va_up (va_up (va_up (fun _ => none) 0 (some q16)) 1 (some q17)) 2 (some q18)) 3 (some q19)) 4 (some q20)) 5 (some q21)) 6 (some q22)))))))] ++ (T_20 ++ dh_sg ta sg_Tale dh_z (q23 :: (List.range 2).map fq23))) H_437 := by rw [← List.append_assoc]; exact hP_440
  have hDj : va_D A ([(h0, .inr (10, [.ref q1, .ref q2, .ref q3, .ref q4, .ref q5, .ref q6, .ref q7, .ref q8, .ref q9, .ref q10, .ref q11, .int 0, .int 1, .int 1])), (q2, .inl (ta 5, 4, .inr (.inr (.inr (.inr (va_up (va_up (va_up (va_up (fun _ => none) 0 (some q12)) 1 (some q13)) 2 (some q14)) 3 (some q15))))))), (q3, .inl (ta 6, 9, .inr (.inr (.inr (.inr (va_up (va_up (va_up (va_up (va_up (va_up (va_up (fun _ => none) 0 (some q16)) 1 (some q17)) 2 (some q18)) 3 (some q19)) 4 (some q20)) 5 (some q21)) 6 (some q22)))))))] ++ (T_20 ++ dh_sg ta sg_Tale dh_z (q23 :: (List.range 2).map fq23))) := by rw [← List.append_assoc]; exact hD_441
  clear hP_440 hD_441
  obtain ⟨T_21, eT_21⟩ : ∃ z, z = T_20 ++ dh_sg ta sg_Tale dh_z (q23 :: (List.range 2).map fq23) := ⟨_, rfl⟩
  rw [← eT_21] at hPj hDj
  have hlen_21 : T_21.length = 141 := by rw [eT_21, List.length_append, hlen_20]; rfl
  have hP_442 := hPj
  have hD_443 := hDj
  clear hPj hDj
  refine W.widen (k := 143) (n := 27631) (Nat.le_of_ble_eq_true rfl) (Nat.le_of_ble_eq_true rfl) ?_
  obtain ⟨vs, rr, ehd⟩ := dh_hd_Tale ta q23 ((List.range 2).map fq23)
  have hvv : ([(h0, .inr (10, [.ref q1, .ref q2, .ref q3, .ref q4, .ref q5, .ref q6, .ref q7, .ref q8, .ref q9, .ref q10, .ref q11, .int 0, .int 1, .int 1])), (q2, .inl (ta 5, 4, .inr (.inr (.inr (.inr (va_up (va_up (va_up (va_up (fun _ => none) 0 (some q12)) 1 (some q13)) 2 (some q14)) 3 (some q15))))))), (q3, .inl (ta 6, 9, .inr (.inr (.inr (.inr (va_up (va_up (va_up (va_up (va_up (va_up (va_up (fun _ => none) 0 (some q16)) 1 (some q17)) 2 (some q18)) 3 (some q19)) 4 (some q20)) 5 (some q21)) 6 (some q22)))))))] ++ T_21)[3 + 138]? = some (q23, .inr (7, vs)) := by rw [eT_21, ehd]; exact dh_at3 hlen_20
  refine va_astq (D := D) (r := (RX7, TX7, 5)) hx hb hK hP_442 hD_443 hS_439 2 5 (3 + 138) 7 rfl rfl hvv rfl (i := 7) (vp_in_iff.mpr (by decide)) di_Heap_181 (fun H_444 locs_445 hP_446 hD_447 hS_448 => ?_)
  clear hP_442 hD_443 hS_439
  clear hvv ehd
  have hP_449 : va_P D vwCl ([(h0, .inr (10, [.ref q1, .ref q2, .ref q3, .ref q4, .ref q5, .ref q6, .ref q7, .ref q8, .ref q9, .ref q10, .ref q11, .int 0, .int 1, .int 1])), (q2, .inl (ta 5, 4, .inr (.inr (.inr (.inr (va_up (va_up (va_up (va_up (fun _ => none) 0 (some q12)) 1 (some q13)) 2 (some q14)) 3 (some q15))))))), (q3, .inl (ta 6, 9, .inr (.inr (.inr (.inr (va_up (va_up (va_up (va_up (va_up (va_up (va_up (va_up (fun _ => none) 0 (some q16)) 1 (some q17)) 2 (some q18)) 3 (some q19)) 4 (some q20)) 5 (some q21)) 6 (some q22)) 7 (some q23)))))))] ++ T_21) H_444 := hP_446
  clear hP_446
  have hD_450 : va_D A ([(h0, .inr (10, [.ref q1, .ref q2, .ref q3, .ref q4, .ref q5, .ref q6, .ref q7, .ref q8, .ref q9, .ref q10, .ref q11, .int 0, .int 1, .int 1])), (q2, .inl (ta 5, 4, .inr (.inr (.inr (.inr (va_up (va_up (va_up (va_up (fun _ => none) 0 (some q12)) 1 (some q13)) 2 (some q14)) 3 (some q15))))))), (q3, .inl (ta 6, 9, .inr (.inr (.inr (.inr (va_up (va_up (va_up (va_up (va_up (va_up (va_up (va_up (fun _ => none) 0 (some q16)) 1 (some q17)) 2 (some q18)) 3 (some q19)) 4 (some q20)) 5 (some q21)) 6 (some q22)) 7 (some q23)))))))] ++ T_21) := hD_447
  clear hD_447
  refine lv_iinc (v := 8) (lv' := [(1, .int 8), (0, .ref h0)]) hx hb di_Heap_182 hl (k := 0) rfl (by decide) (by decide) rfl (fun ls hl => ?_)
  refine lv_goto (tgt := 163) hx hb di_Heap_185 (by decide) ?_
  refine lv_iload_n hx hb di_Heap_163 rfl (lv_at hl 0 rfl) ?_
  refine lv_bipush (v := 9) hx hb di_Heap_164 (by decide) ?_
  refine lv_icmp_ge (tgt := 188) hx hb di_Heap_166 (by decide) (fun c9 => absurd c9 (by decide)) (fun c9 => ?_)
  clear c9
  refine lv_aload_n hx hb di_Heap_169 rfl (lv_at hl 1 rfl) ?_
  refine va_get (D := D) (ci := 10) (v := .ref q3) (C := RX10) (T := TX10) (N := 14) hx hb hts dh_u10 hown hK hP_449 0 rfl rfl 2 (by decide) (hts (.fieldLink RX10 24 RX10 "tales" "[LDoubleHeap$Tale;") (dh_has_in (i := 419) (by decide +kernel))) (fun _ h9 => h9) rfl di_Heap_170 ?_
  refine lv_iload_n hx hb di_Heap_173 rfl (lv_at hl 0 rfl) ?_
  refine va_new (ci := 7) (fs := [.int 0, .int 0, .int 0, .null, .null]) (C := RX7) (T := TX7) (N := 5) hx hb hts dh_u7 tyX7 tyX7_ok hown (hts (.classLink RX10 22 RX7) (dh_has_in (i := 192) (by decide +kernel))) (hts (.instantiable RX7 5) (dh_has_in (i := 257) (by decide +kernel))) (hts (.initialized RX7) (dh_has_in (i := 155) (by decide +kernel))) hK hP_449 hD_450 hS_448 hA rfl (by decide +kernel) (Nat.le_of_ble_eq_true rfl) (Nat.le_of_ble_eq_true rfl) di_Heap_174 (fun q24 H_451 hP_452 hD_453 hS_454 => ?_)
  clear hP_449 hD_450 hS_448
  refine lv_dup hx hb di_Heap_177 rfl ?_
  have hPc : va_P D vwCl [(q24, .inr (7, [.int 0, .int 0, .int 0, .null, .null]))] H_451 := dh_Pr hP_452
  have hDc : va_D A [(q24, .inr (7, [.int 0, .int 0, .int 0, .null, .null]))] := dh_Dr hD_453
  have hFc := dh_Fr (wc := [(q24, .inr (7, [.int 0, .int 0, .int 0, .null, .null]))]) hD_453 hS_454 hA
  refine va_callv (va_runIN (As := []) (rest := [.ref q24, .int 8, .ref q3]) ⟨hx, hb, hml, hown, hts⟩ (k_Tale l D ta q24 H_451.size) ⟨va_cnB (host := "DoubleHeap") 0 hts gwi_Tale rfl rfl rfl (hN _ (dh_hasN_in (i := 258) (by decide +kernel) rfl)) (hts (.initialized RX7) (dh_has_in (i := 155) (by decide +kernel))) (by decide +kernel) ⟨Nat.le_of_ble_eq_true rfl, Nat.le_of_ble_eq_true rfl⟩, rfl, hts (.instanceMethod yi_Tale) (dh_has_in (i := 259) (by decide +kernel))⟩ ⟨dh_Pi_blind, fun U hU hW => ⟨rfl, by rw [hU], by rw [hU]; exact hPc, va_K.moved hW.alike hK, hDc.weaken (fun _ _ _ _ => trivial), hN.warm hW, hO.moved hW.alike⟩⟩ rfl rfl hl.1 rfl (lv_room (Nat.le_of_ble_eq_true rfl)) di_Heap_178 ⟨Nat.le_of_ble_eq_true rfl, Nat.le_of_ble_eq_true rfl⟩) hS_454 (fun q _ h => hFc q h) hFc (fun u t H_456 locs_457 ht hvm hw hB hz1 hk1 hS_458 => ?_)
  clear hS_454
  obtain ⟨hPx, hDx⟩ := hB
  rw [ht] at hPx
  obtain ⟨fq24, rfl⟩ := dh_lenf hw
  obtain ⟨hP_459, hD_460⟩ := dh_joinA hP_452 hD_453 hk1 hFc hPx hDx
  clear hP_452 hD_453
  clear hPc hDc hFc hPx hDx hk1 hz1 hw ht hvm
  have hPj : va_P D vwCl ([(h0, .inr (10, [.ref q1, .ref q2, .ref q3, .ref q4, .ref q5, .ref q6, .ref q7, .ref q8, .ref q9, .ref q10, .ref q11, .int 0, .int 1, .int 1])), (q2, .inl (ta 5, 4, .inr (.inr (.inr (.inr (va_up (va_up (va_up (va_up (fun _ => none) 0 (some q12)) 1 (some q13)) 2 (some q14)) 3 (some q15))))))), (q3, .inl (ta 6, 9, .inr (.inr (.inr (.inr (va_up (va_up (va_up (va_up (va_up (va_up (va_up (va_up (fun _ => none) 0 (some q16)) 1 (some q17)) 2 (some q18)) 3 (some q19)) 4 (some q20)) 5 (some q21)) 6 (some q22)) 7 (some q23)))))))] ++ (T_21 ++ dh_sg ta sg_Tale dh_z (q24 :: (List.range 2).map fq24))) H_456 := by rw [← List.append_assoc]; exact hP_459
  have hDj : va_D A ([(h0, .inr (10, [.ref q1, .ref q2, .ref q3, .ref q4, .ref q5, .ref q6, .ref q7, .ref q8, .ref q9, .ref q10, .ref q11, .int 0, .int 1, .int 1])), (q2, .inl (ta 5, 4, .inr (.inr (.inr (.inr (va_up (va_up (va_up (va_up (fun _ => none) 0 (some q12)) 1 (some q13)) 2 (some q14)) 3 (some q15))))))), (q3, .inl (ta 6, 9, .inr (.inr (.inr (.inr (va_up (va_up (va_up (va_up (va_up (va_up (va_up (va_up (fun _ => none) 0 (some q16)) 1 (some q17)) 2 (some q18)) 3 (some q19)) 4 (some q20)) 5 (some q21)) 6 (some q22)) 7 (some q23)))))))] ++ (T_21 ++ dh_sg ta sg_Tale dh_z (q24 :: (List.range 2).map fq24))) := by rw [← List.append_assoc]; exact hD_460
  clear hP_459 hD_460
  obtain ⟨T_22, eT_22⟩ : ∃ z, z = T_21 ++ dh_sg ta sg_Tale dh_z (q24 :: (List.range 2).map fq24) := ⟨_, rfl⟩
  rw [← eT_22] at hPj hDj
  have hlen_22 : T_22.length = 144 := by rw [eT_22, List.length_append, hlen_21]; rfl
  have hP_461 := hPj
  have hD_462 := hDj
  clear hPj hDj
  refine W.widen (k := 146) (n := 27716) (Nat.le_of_ble_eq_true rfl) (Nat.le_of_ble_eq_true rfl) ?_
  obtain ⟨vs, rr, ehd⟩ := dh_hd_Tale ta q24 ((List.range 2).map fq24)
  have hvv : ([(h0, .inr (10, [.ref q1, .ref q2, .ref q3, .ref q4, .ref q5, .ref q6, .ref q7, .ref q8, .ref q9, .ref q10, .ref q11, .int 0, .int 1, .int 1])), (q2, .inl (ta 5, 4, .inr (.inr (.inr (.inr (va_up (va_up (va_up (va_up (fun _ => none) 0 (some q12)) 1 (some q13)) 2 (some q14)) 3 (some q15))))))), (q3, .inl (ta 6, 9, .inr (.inr (.inr (.inr (va_up (va_up (va_up (va_up (va_up (va_up (va_up (va_up (fun _ => none) 0 (some q16)) 1 (some q17)) 2 (some q18)) 3 (some q19)) 4 (some q20)) 5 (some q21)) 6 (some q22)) 7 (some q23)))))))] ++ T_22)[3 + 141]? = some (q24, .inr (7, vs)) := by rw [eT_22, ehd]; exact dh_at3 hlen_21
  refine va_astq (D := D) (r := (RX7, TX7, 5)) hx hb hK hP_461 hD_462 hS_458 2 5 (3 + 141) 7 rfl rfl hvv rfl (i := 8) (vp_in_iff.mpr (by decide)) di_Heap_181 (fun H_463 locs_464 hP_465 hD_466 hS_467 => ?_)
  clear hP_461 hD_462 hS_458
  clear hvv ehd
  have hP_468 : va_P D vwCl ([(h0, .inr (10, [.ref q1, .ref q2, .ref q3, .ref q4, .ref q5, .ref q6, .ref q7, .ref q8, .ref q9, .ref q10, .ref q11, .int 0, .int 1, .int 1])), (q2, .inl (ta 5, 4, .inr (.inr (.inr (.inr (va_up (va_up (va_up (va_up (fun _ => none) 0 (some q12)) 1 (some q13)) 2 (some q14)) 3 (some q15))))))), (q3, .inl (ta 6, 9, .inr (.inr (.inr (.inr (va_up (va_up (va_up (va_up (va_up (va_up (va_up (va_up (va_up (fun _ => none) 0 (some q16)) 1 (some q17)) 2 (some q18)) 3 (some q19)) 4 (some q20)) 5 (some q21)) 6 (some q22)) 7 (some q23)) 8 (some q24)))))))] ++ T_22) H_463 := hP_465
  clear hP_465
  have hD_469 : va_D A ([(h0, .inr (10, [.ref q1, .ref q2, .ref q3, .ref q4, .ref q5, .ref q6, .ref q7, .ref q8, .ref q9, .ref q10, .ref q11, .int 0, .int 1, .int 1])), (q2, .inl (ta 5, 4, .inr (.inr (.inr (.inr (va_up (va_up (va_up (va_up (fun _ => none) 0 (some q12)) 1 (some q13)) 2 (some q14)) 3 (some q15))))))), (q3, .inl (ta 6, 9, .inr (.inr (.inr (.inr (va_up (va_up (va_up (va_up (va_up (va_up (va_up (va_up (va_up (fun _ => none) 0 (some q16)) 1 (some q17)) 2 (some q18)) 3 (some q19)) 4 (some q20)) 5 (some q21)) 6 (some q22)) 7 (some q23)) 8 (some q24)))))))] ++ T_22) := hD_466
  clear hD_466
  refine lv_iinc (v := 9) (lv' := [(1, .int 9), (0, .ref h0)]) hx hb di_Heap_182 hl (k := 0) rfl (by decide) (by decide) rfl (fun ls hl => ?_)
  refine lv_goto (tgt := 163) hx hb di_Heap_185 (by decide) ?_
  refine lv_iload_n hx hb di_Heap_163 rfl (lv_at hl 0 rfl) ?_
  refine lv_bipush (v := 9) hx hb di_Heap_164 (by decide) ?_
  refine lv_icmp_ge (tgt := 188) hx hb di_Heap_166 (by decide) (fun c9 => ?_) (fun c9 => absurd (by decide) c9)
  clear c9
  have e5 : (va_up (va_up (va_up (va_up (fun _ => none) 0 (some q12)) 1 (some q13)) 2 (some q14)) 3 (some q15)) = (fun j => if j < 4 then some ((h0 :: [q2, q3, q1, fq1 0, q4, fq4 0, fq4 1, fq4 2, fq4 3, fq4 4, fq4 5, fq4 6, fq4 7, q5, fq5 0, fq5 1, q6, fq6 0, fq6 1, fq6 2, fq6 3, fq6 4, q7, fq7 0, fq7 1, fq7 2, fq7 3, fq7 4, q8, fq8 0, fq8 1, fq8 2, fq8 3, fq8 4, fq8 5, fq8 6, fq8 7, fq8 8, fq8 9, fq8 10, fq8 11, fq8 12, fq8 13, fq8 14, fq8 15, fq8 16, fq8 17, fq8 18, fq8 19, fq8 20, fq8 21, fq8 22, fq8 23, fq8 24, fq8 25, fq8 26, fq8 27, fq8 28, fq8 29, fq8 30, fq8 31, fq8 32, fq8 33, fq8 34, fq8 35, fq8 36, fq8 37, fq8 38, fq8 39, fq8 40, fq8 41, fq8 42, fq8 43, fq8 44, q9, q10, fq10 0, q11, fq11 0, q12, fq12 0, fq12 1, fq12 2, fq12 3, fq12 4, fq12 5, fq12 6, fq12 7, fq12 8, q13, fq13 0, fq13 1, fq13 2, fq13 3, fq13 4, fq13 5, fq13 6, fq13 7, fq13 8, q14, fq14 0, fq14 1, fq14 2, fq14 3, fq14 4, fq14 5, fq14 6, fq14 7, fq14 8, q15, fq15 0, fq15 1, fq15 2, fq15 3, fq15 4, fq15 5, fq15 6, fq15 7, fq15 8, q16, fq16 0, fq16 1, q17, fq17 0, fq17 1, q18, fq18 0, fq18 1, q19, fq19 0, fq19 1, q20, fq20 0, fq20 1, q21, fq21 0, fq21 1, q22, fq22 0, fq22 1, q23, fq23 0, fq23 1, q24, fq24 0, fq24 1]).getD (1 + 79 + j * 10) 0) else none) := by
    funext j
    match j with
    | 0 => rfl
    | 1 => rfl
    | 2 => rfl
    | 3 => rfl
    | k + 4 => simp [va_up]
  have e6 : (va_up (va_up (va_up (va_up (va_up (va_up (va_up (va_up (va_up (fun _ => none) 0 (some q16)) 1 (some q17)) 2 (some q18)) 3 (some q19)) 4 (some q20)) 5 (some q21)) 6 (some q22)) 7 (some q23)) 8 (some q24)) = (fun j => if j < 9 then some ((h0 :: [q2, q3, q1, fq1 0, q4, fq4 0, fq4 1, fq4 2, fq4 3, fq4 4, fq4 5, fq4 6, fq4 7, q5, fq5 0, fq5 1, q6, fq6 0, fq6 1, fq6 2, fq6 3, fq6 4, q7, fq7 0, fq7 1, fq7 2, fq7 3, fq7 4, q8, fq8 0, fq8 1, fq8 2, fq8 3, fq8 4, fq8 5, fq8 6, fq8 7, fq8 8, fq8 9, fq8 10, fq8 11, fq8 12, fq8 13, fq8 14, fq8 15, fq8 16, fq8 17, fq8 18, fq8 19, fq8 20, fq8 21, fq8 22, fq8 23, fq8 24, fq8 25, fq8 26, fq8 27, fq8 28, fq8 29, fq8 30, fq8 31, fq8 32, fq8 33, fq8 34, fq8 35, fq8 36, fq8 37, fq8 38, fq8 39, fq8 40, fq8 41, fq8 42, fq8 43, fq8 44, q9, q10, fq10 0, q11, fq11 0, q12, fq12 0, fq12 1, fq12 2, fq12 3, fq12 4, fq12 5, fq12 6, fq12 7, fq12 8, q13, fq13 0, fq13 1, fq13 2, fq13 3, fq13 4, fq13 5, fq13 6, fq13 7, fq13 8, q14, fq14 0, fq14 1, fq14 2, fq14 3, fq14 4, fq14 5, fq14 6, fq14 7, fq14 8, q15, fq15 0, fq15 1, fq15 2, fq15 3, fq15 4, fq15 5, fq15 6, fq15 7, fq15 8, q16, fq16 0, fq16 1, q17, fq17 0, fq17 1, q18, fq18 0, fq18 1, q19, fq19 0, fq19 1, q20, fq20 0, fq20 1, q21, fq21 0, fq21 1, q22, fq22 0, fq22 1, q23, fq23 0, fq23 1, q24, fq24 0, fq24 1]).getD (2 + 118 + j * 3) 0) else none) := by
    funext j
    match j with
    | 0 => rfl
    | 1 => rfl
    | 2 => rfl
    | 3 => rfl
    | 4 => rfl
    | 5 => rfl
    | 6 => rfl
    | 7 => rfl
    | 8 => rfl
    | k + 9 => simp [va_up]
  rw [e5, e6] at hP_468 hD_469
  have hr1 : ∀ o, o ≠ 0 → ∀ k, dh_r1 (o + k) = dh_z k := fun o ho k => by
    funext j
    show (if o + k = 0 ∧ (j = 12 ∨ j = 13) then (1 : Int32) else 0) = 0
    rw [if_neg (fun z => ho (by omega))]
  have hT_0 : T_0 = dh_so (fun j => (h0 :: [q2, q3, q1, fq1 0, q4, fq4 0, fq4 1, fq4 2, fq4 3, fq4 4, fq4 5, fq4 6, fq4 7, q5, fq5 0, fq5 1, q6, fq6 0, fq6 1, fq6 2, fq6 3, fq6 4, q7, fq7 0, fq7 1, fq7 2, fq7 3, fq7 4, q8, fq8 0, fq8 1, fq8 2, fq8 3, fq8 4, fq8 5, fq8 6, fq8 7, fq8 8, fq8 9, fq8 10, fq8 11, fq8 12, fq8 13, fq8 14, fq8 15, fq8 16, fq8 17, fq8 18, fq8 19, fq8 20, fq8 21, fq8 22, fq8 23, fq8 24, fq8 25, fq8 26, fq8 27, fq8 28, fq8 29, fq8 30, fq8 31, fq8 32, fq8 33, fq8 34, fq8 35, fq8 36, fq8 37, fq8 38, fq8 39, fq8 40, fq8 41, fq8 42, fq8 43, fq8 44, q9, q10, fq10 0, q11, fq11 0, q12, fq12 0, fq12 1, fq12 2, fq12 3, fq12 4, fq12 5, fq12 6, fq12 7, fq12 8, q13, fq13 0, fq13 1, fq13 2, fq13 3, fq13 4, fq13 5, fq13 6, fq13 7, fq13 8, q14, fq14 0, fq14 1, fq14 2, fq14 3, fq14 4, fq14 5, fq14 6, fq14 7, fq14 8, q15, fq15 0, fq15 1, fq15 2, fq15 3, fq15 4, fq15 5, fq15 6, fq15 7, fq15 8, q16, fq16 0, fq16 1, q17, fq17 0, fq17 1, q18, fq18 0, fq18 1, q19, fq19 0, fq19 1, q20, fq20 0, fq20 1, q21, fq21 0, fq21 1, q22, fq22 0, fq22 1, q23, fq23 0, fq23 1, q24, fq24 0, fq24 1]).getD j 0) ta dh_r1 3 [] := eT_0
  have hT_1 : T_1 = dh_so (fun j => (h0 :: [q2, q3, q1, fq1 0, q4, fq4 0, fq4 1, fq4 2, fq4 3, fq4 4, fq4 5, fq4 6, fq4 7, q5, fq5 0, fq5 1, q6, fq6 0, fq6 1, fq6 2, fq6 3, fq6 4, q7, fq7 0, fq7 1, fq7 2, fq7 3, fq7 4, q8, fq8 0, fq8 1, fq8 2, fq8 3, fq8 4, fq8 5, fq8 6, fq8 7, fq8 8, fq8 9, fq8 10, fq8 11, fq8 12, fq8 13, fq8 14, fq8 15, fq8 16, fq8 17, fq8 18, fq8 19, fq8 20, fq8 21, fq8 22, fq8 23, fq8 24, fq8 25, fq8 26, fq8 27, fq8 28, fq8 29, fq8 30, fq8 31, fq8 32, fq8 33, fq8 34, fq8 35, fq8 36, fq8 37, fq8 38, fq8 39, fq8 40, fq8 41, fq8 42, fq8 43, fq8 44, q9, q10, fq10 0, q11, fq11 0, q12, fq12 0, fq12 1, fq12 2, fq12 3, fq12 4, fq12 5, fq12 6, fq12 7, fq12 8, q13, fq13 0, fq13 1, fq13 2, fq13 3, fq13 4, fq13 5, fq13 6, fq13 7, fq13 8, q14, fq14 0, fq14 1, fq14 2, fq14 3, fq14 4, fq14 5, fq14 6, fq14 7, fq14 8, q15, fq15 0, fq15 1, fq15 2, fq15 3, fq15 4, fq15 5, fq15 6, fq15 7, fq15 8, q16, fq16 0, fq16 1, q17, fq17 0, fq17 1, q18, fq18 0, fq18 1, q19, fq19 0, fq19 1, q20, fq20 0, fq20 1, q21, fq21 0, fq21 1, q22, fq22 0, fq22 1, q23, fq23 0, fq23 1, q24, fq24 0, fq24 1]).getD j 0) ta dh_r1 3 ([] ++ sg_Tape) := by
    have hq : dh_so (fun j => (h0 :: [q2, q3, q1, fq1 0, q4, fq4 0, fq4 1, fq4 2, fq4 3, fq4 4, fq4 5, fq4 6, fq4 7, q5, fq5 0, fq5 1, q6, fq6 0, fq6 1, fq6 2, fq6 3, fq6 4, q7, fq7 0, fq7 1, fq7 2, fq7 3, fq7 4, q8, fq8 0, fq8 1, fq8 2, fq8 3, fq8 4, fq8 5, fq8 6, fq8 7, fq8 8, fq8 9, fq8 10, fq8 11, fq8 12, fq8 13, fq8 14, fq8 15, fq8 16, fq8 17, fq8 18, fq8 19, fq8 20, fq8 21, fq8 22, fq8 23, fq8 24, fq8 25, fq8 26, fq8 27, fq8 28, fq8 29, fq8 30, fq8 31, fq8 32, fq8 33, fq8 34, fq8 35, fq8 36, fq8 37, fq8 38, fq8 39, fq8 40, fq8 41, fq8 42, fq8 43, fq8 44, q9, q10, fq10 0, q11, fq11 0, q12, fq12 0, fq12 1, fq12 2, fq12 3, fq12 4, fq12 5, fq12 6, fq12 7, fq12 8, q13, fq13 0, fq13 1, fq13 2, fq13 3, fq13 4, fq13 5, fq13 6, fq13 7, fq13 8, q14, fq14 0, fq14 1, fq14 2, fq14 3, fq14 4, fq14 5, fq14 6, fq14 7, fq14 8, q15, fq15 0, fq15 1, fq15 2, fq15 3, fq15 4, fq15 5, fq15 6, fq15 7, fq15 8, q16, fq16 0, fq16 1, q17, fq17 0, fq17 1, q18, fq18 0, fq18 1, q19, fq19 0, fq19 1, q20, fq20 0, fq20 1, q21, fq21 0, fq21 1, q22, fq22 0, fq22 1, q23, fq23 0, fq23 1, q24, fq24 0, fq24 1]).getD j 0) ta dh_r1 (3 + 0) sg_Tape = dh_sg ta sg_Tape dh_z (q1 :: (List.range 1).map fq1) := dh_so_sg (n := 2) rfl (fun j hj => by
      match j, hj with
      | 0, _ => rfl
      | 1, _ => rfl
      | k + 2, hj => exact absurd hj (by omega)) (hr1 _ (by omega)) (by decide +kernel)
    rw [eT_1, hT_0, ← hq]
    exact (dh_sgG_app (s1 := []) (s2 := sg_Tape) (o := 3)).symm
  have hT_2 : T_2 = dh_so (fun j => (h0 :: [q2, q3, q1, fq1 0, q4, fq4 0, fq4 1, fq4 2, fq4 3, fq4 4, fq4 5, fq4 6, fq4 7, q5, fq5 0, fq5 1, q6, fq6 0, fq6 1, fq6 2, fq6 3, fq6 4, q7, fq7 0, fq7 1, fq7 2, fq7 3, fq7 4, q8, fq8 0, fq8 1, fq8 2, fq8 3, fq8 4, fq8 5, fq8 6, fq8 7, fq8 8, fq8 9, fq8 10, fq8 11, fq8 12, fq8 13, fq8 14, fq8 15, fq8 16, fq8 17, fq8 18, fq8 19, fq8 20, fq8 21, fq8 22, fq8 23, fq8 24, fq8 25, fq8 26, fq8 27, fq8 28, fq8 29, fq8 30, fq8 31, fq8 32, fq8 33, fq8 34, fq8 35, fq8 36, fq8 37, fq8 38, fq8 39, fq8 40, fq8 41, fq8 42, fq8 43, fq8 44, q9, q10, fq10 0, q11, fq11 0, q12, fq12 0, fq12 1, fq12 2, fq12 3, fq12 4, fq12 5, fq12 6, fq12 7, fq12 8, q13, fq13 0, fq13 1, fq13 2, fq13 3, fq13 4, fq13 5, fq13 6, fq13 7, fq13 8, q14, fq14 0, fq14 1, fq14 2, fq14 3, fq14 4, fq14 5, fq14 6, fq14 7, fq14 8, q15, fq15 0, fq15 1, fq15 2, fq15 3, fq15 4, fq15 5, fq15 6, fq15 7, fq15 8, q16, fq16 0, fq16 1, q17, fq17 0, fq17 1, q18, fq18 0, fq18 1, q19, fq19 0, fq19 1, q20, fq20 0, fq20 1, q21, fq21 0, fq21 1, q22, fq22 0, fq22 1, q23, fq23 0, fq23 1, q24, fq24 0, fq24 1]).getD j 0) ta dh_r1 3 (([] ++ sg_Tape) ++ sg_LawReader) := by
    have hq : dh_so (fun j => (h0 :: [q2, q3, q1, fq1 0, q4, fq4 0, fq4 1, fq4 2, fq4 3, fq4 4, fq4 5, fq4 6, fq4 7, q5, fq5 0, fq5 1, q6, fq6 0, fq6 1, fq6 2, fq6 3, fq6 4, q7, fq7 0, fq7 1, fq7 2, fq7 3, fq7 4, q8, fq8 0, fq8 1, fq8 2, fq8 3, fq8 4, fq8 5, fq8 6, fq8 7, fq8 8, fq8 9, fq8 10, fq8 11, fq8 12, fq8 13, fq8 14, fq8 15, fq8 16, fq8 17, fq8 18, fq8 19, fq8 20, fq8 21, fq8 22, fq8 23, fq8 24, fq8 25, fq8 26, fq8 27, fq8 28, fq8 29, fq8 30, fq8 31, fq8 32, fq8 33, fq8 34, fq8 35, fq8 36, fq8 37, fq8 38, fq8 39, fq8 40, fq8 41, fq8 42, fq8 43, fq8 44, q9, q10, fq10 0, q11, fq11 0, q12, fq12 0, fq12 1, fq12 2, fq12 3, fq12 4, fq12 5, fq12 6, fq12 7, fq12 8, q13, fq13 0, fq13 1, fq13 2, fq13 3, fq13 4, fq13 5, fq13 6, fq13 7, fq13 8, q14, fq14 0, fq14 1, fq14 2, fq14 3, fq14 4, fq14 5, fq14 6, fq14 7, fq14 8, q15, fq15 0, fq15 1, fq15 2, fq15 3, fq15 4, fq15 5, fq15 6, fq15 7, fq15 8, q16, fq16 0, fq16 1, q17, fq17 0, fq17 1, q18, fq18 0, fq18 1, q19, fq19 0, fq19 1, q20, fq20 0, fq20 1, q21, fq21 0, fq21 1, q22, fq22 0, fq22 1, q23, fq23 0, fq23 1, q24, fq24 0, fq24 1]).getD j 0) ta dh_r1 (3 + 2) sg_LawReader = dh_sg ta sg_LawReader dh_z (q4 :: (List.range 8).map fq4) := dh_so_sg (n := 9) rfl (fun j hj => by
      match j, hj with
      | 0, _ => rfl
      | 1, _ => rfl
      | 2, _ => rfl
      | 3, _ => rfl
      | 4, _ => rfl
      | 5, _ => rfl
      | 6, _ => rfl
      | 7, _ => rfl
      | 8, _ => rfl
      | k + 9, hj => exact absurd hj (by omega)) (hr1 _ (by omega)) (by decide +kernel)
    rw [eT_2, hT_1, ← hq]
    exact (dh_sgG_app (s1 := ([] ++ sg_Tape)) (s2 := sg_LawReader) (o := 3)).symm
  have hT_3 : T_3 = dh_so (fun j => (h0 :: [q2, q3, q1, fq1 0, q4, fq4 0, fq4 1, fq4 2, fq4 3, fq4 4, fq4 5, fq4 6, fq4 7, q5, fq5 0, fq5 1, q6, fq6 0, fq6 1, fq6 2, fq6 3, fq6 4, q7, fq7 0, fq7 1, fq7 2, fq7 3, fq7 4, q8, fq8 0, fq8 1, fq8 2, fq8 3, fq8 4, fq8 5, fq8 6, fq8 7, fq8 8, fq8 9, fq8 10, fq8 11, fq8 12, fq8 13, fq8 14, fq8 15, fq8 16, fq8 17, fq8 18, fq8 19, fq8 20, fq8 21, fq8 22, fq8 23, fq8 24, fq8 25, fq8 26, fq8 27, fq8 28, fq8 29, fq8 30, fq8 31, fq8 32, fq8 33, fq8 34, fq8 35, fq8 36, fq8 37, fq8 38, fq8 39, fq8 40, fq8 41, fq8 42, fq8 43, fq8 44, q9, q10, fq10 0, q11, fq11 0, q12, fq12 0, fq12 1, fq12 2, fq12 3, fq12 4, fq12 5, fq12 6, fq12 7, fq12 8, q13, fq13 0, fq13 1, fq13 2, fq13 3, fq13 4, fq13 5, fq13 6, fq13 7, fq13 8, q14, fq14 0, fq14 1, fq14 2, fq14 3, fq14 4, fq14 5, fq14 6, fq14 7, fq14 8, q15, fq15 0, fq15 1, fq15 2, fq15 3, fq15 4, fq15 5, fq15 6, fq15 7, fq15 8, q16, fq16 0, fq16 1, q17, fq17 0, fq17 1, q18, fq18 0, fq18 1, q19, fq19 0, fq19 1, q20, fq20 0, fq20 1, q21, fq21 0, fq21 1, q22, fq22 0, fq22 1, q23, fq23 0, fq23 1, q24, fq24 0, fq24 1]).getD j 0) ta dh_r1 3 ((([] ++ sg_Tape) ++ sg_LawReader) ++ sg_Tale) := by
    have hq : dh_so (fun j => (h0 :: [q2, q3, q1, fq1 0, q4, fq4 0, fq4 1, fq4 2, fq4 3, fq4 4, fq4 5, fq4 6, fq4 7, q5, fq5 0, fq5 1, q6, fq6 0, fq6 1, fq6 2, fq6 3, fq6 4, q7, fq7 0, fq7 1, fq7 2, fq7 3, fq7 4, q8, fq8 0, fq8 1, fq8 2, fq8 3, fq8 4, fq8 5, fq8 6, fq8 7, fq8 8, fq8 9, fq8 10, fq8 11, fq8 12, fq8 13, fq8 14, fq8 15, fq8 16, fq8 17, fq8 18, fq8 19, fq8 20, fq8 21, fq8 22, fq8 23, fq8 24, fq8 25, fq8 26, fq8 27, fq8 28, fq8 29, fq8 30, fq8 31, fq8 32, fq8 33, fq8 34, fq8 35, fq8 36, fq8 37, fq8 38, fq8 39, fq8 40, fq8 41, fq8 42, fq8 43, fq8 44, q9, q10, fq10 0, q11, fq11 0, q12, fq12 0, fq12 1, fq12 2, fq12 3, fq12 4, fq12 5, fq12 6, fq12 7, fq12 8, q13, fq13 0, fq13 1, fq13 2, fq13 3, fq13 4, fq13 5, fq13 6, fq13 7, fq13 8, q14, fq14 0, fq14 1, fq14 2, fq14 3, fq14 4, fq14 5, fq14 6, fq14 7, fq14 8, q15, fq15 0, fq15 1, fq15 2, fq15 3, fq15 4, fq15 5, fq15 6, fq15 7, fq15 8, q16, fq16 0, fq16 1, q17, fq17 0, fq17 1, q18, fq18 0, fq18 1, q19, fq19 0, fq19 1, q20, fq20 0, fq20 1, q21, fq21 0, fq21 1, q22, fq22 0, fq22 1, q23, fq23 0, fq23 1, q24, fq24 0, fq24 1]).getD j 0) ta dh_r1 (3 + 11) sg_Tale = dh_sg ta sg_Tale dh_z (q5 :: (List.range 2).map fq5) := dh_so_sg (n := 3) rfl (fun j hj => by
      match j, hj with
      | 0, _ => rfl
      | 1, _ => rfl
      | 2, _ => rfl
      | k + 3, hj => exact absurd hj (by omega)) (hr1 _ (by omega)) (by decide +kernel)
    rw [eT_3, hT_2, ← hq]
    exact (dh_sgG_app (s1 := (([] ++ sg_Tape) ++ sg_LawReader)) (s2 := sg_Tale) (o := 3)).symm
  have hT_4 : T_4 = dh_so (fun j => (h0 :: [q2, q3, q1, fq1 0, q4, fq4 0, fq4 1, fq4 2, fq4 3, fq4 4, fq4 5, fq4 6, fq4 7, q5, fq5 0, fq5 1, q6, fq6 0, fq6 1, fq6 2, fq6 3, fq6 4, q7, fq7 0, fq7 1, fq7 2, fq7 3, fq7 4, q8, fq8 0, fq8 1, fq8 2, fq8 3, fq8 4, fq8 5, fq8 6, fq8 7, fq8 8, fq8 9, fq8 10, fq8 11, fq8 12, fq8 13, fq8 14, fq8 15, fq8 16, fq8 17, fq8 18, fq8 19, fq8 20, fq8 21, fq8 22, fq8 23, fq8 24, fq8 25, fq8 26, fq8 27, fq8 28, fq8 29, fq8 30, fq8 31, fq8 32, fq8 33, fq8 34, fq8 35, fq8 36, fq8 37, fq8 38, fq8 39, fq8 40, fq8 41, fq8 42, fq8 43, fq8 44, q9, q10, fq10 0, q11, fq11 0, q12, fq12 0, fq12 1, fq12 2, fq12 3, fq12 4, fq12 5, fq12 6, fq12 7, fq12 8, q13, fq13 0, fq13 1, fq13 2, fq13 3, fq13 4, fq13 5, fq13 6, fq13 7, fq13 8, q14, fq14 0, fq14 1, fq14 2, fq14 3, fq14 4, fq14 5, fq14 6, fq14 7, fq14 8, q15, fq15 0, fq15 1, fq15 2, fq15 3, fq15 4, fq15 5, fq15 6, fq15 7, fq15 8, q16, fq16 0, fq16 1, q17, fq17 0, fq17 1, q18, fq18 0, fq18 1, q19, fq19 0, fq19 1, q20, fq20 0, fq20 1, q21, fq21 0, fq21 1, q22, fq22 0, fq22 1, q23, fq23 0, fq23 1, q24, fq24 0, fq24 1]).getD j 0) ta dh_r1 3 (((([] ++ sg_Tape) ++ sg_LawReader) ++ sg_Tale) ++ sg_Walks) := by
    have hq : dh_so (fun j => (h0 :: [q2, q3, q1, fq1 0, q4, fq4 0, fq4 1, fq4 2, fq4 3, fq4 4, fq4 5, fq4 6, fq4 7, q5, fq5 0, fq5 1, q6, fq6 0, fq6 1, fq6 2, fq6 3, fq6 4, q7, fq7 0, fq7 1, fq7 2, fq7 3, fq7 4, q8, fq8 0, fq8 1, fq8 2, fq8 3, fq8 4, fq8 5, fq8 6, fq8 7, fq8 8, fq8 9, fq8 10, fq8 11, fq8 12, fq8 13, fq8 14, fq8 15, fq8 16, fq8 17, fq8 18, fq8 19, fq8 20, fq8 21, fq8 22, fq8 23, fq8 24, fq8 25, fq8 26, fq8 27, fq8 28, fq8 29, fq8 30, fq8 31, fq8 32, fq8 33, fq8 34, fq8 35, fq8 36, fq8 37, fq8 38, fq8 39, fq8 40, fq8 41, fq8 42, fq8 43, fq8 44, q9, q10, fq10 0, q11, fq11 0, q12, fq12 0, fq12 1, fq12 2, fq12 3, fq12 4, fq12 5, fq12 6, fq12 7, fq12 8, q13, fq13 0, fq13 1, fq13 2, fq13 3, fq13 4, fq13 5, fq13 6, fq13 7, fq13 8, q14, fq14 0, fq14 1, fq14 2, fq14 3, fq14 4, fq14 5, fq14 6, fq14 7, fq14 8, q15, fq15 0, fq15 1, fq15 2, fq15 3, fq15 4, fq15 5, fq15 6, fq15 7, fq15 8, q16, fq16 0, fq16 1, q17, fq17 0, fq17 1, q18, fq18 0, fq18 1, q19, fq19 0, fq19 1, q20, fq20 0, fq20 1, q21, fq21 0, fq21 1, q22, fq22 0, fq22 1, q23, fq23 0, fq23 1, q24, fq24 0, fq24 1]).getD j 0) ta dh_r1 (3 + 14) sg_Walks = dh_sg ta sg_Walks dh_z (q6 :: (List.range 5).map fq6) := dh_so_sg (n := 6) rfl (fun j hj => by
      match j, hj with
      | 0, _ => rfl
      | 1, _ => rfl
      | 2, _ => rfl
      | 3, _ => rfl
      | 4, _ => rfl
      | 5, _ => rfl
      | k + 6, hj => exact absurd hj (by omega)) (hr1 _ (by omega)) (by decide +kernel)
    rw [eT_4, hT_3, ← hq]
    exact (dh_sgG_app (s1 := ((([] ++ sg_Tape) ++ sg_LawReader) ++ sg_Tale)) (s2 := sg_Walks) (o := 3)).symm
  have hT_5 : T_5 = dh_so (fun j => (h0 :: [q2, q3, q1, fq1 0, q4, fq4 0, fq4 1, fq4 2, fq4 3, fq4 4, fq4 5, fq4 6, fq4 7, q5, fq5 0, fq5 1, q6, fq6 0, fq6 1, fq6 2, fq6 3, fq6 4, q7, fq7 0, fq7 1, fq7 2, fq7 3, fq7 4, q8, fq8 0, fq8 1, fq8 2, fq8 3, fq8 4, fq8 5, fq8 6, fq8 7, fq8 8, fq8 9, fq8 10, fq8 11, fq8 12, fq8 13, fq8 14, fq8 15, fq8 16, fq8 17, fq8 18, fq8 19, fq8 20, fq8 21, fq8 22, fq8 23, fq8 24, fq8 25, fq8 26, fq8 27, fq8 28, fq8 29, fq8 30, fq8 31, fq8 32, fq8 33, fq8 34, fq8 35, fq8 36, fq8 37, fq8 38, fq8 39, fq8 40, fq8 41, fq8 42, fq8 43, fq8 44, q9, q10, fq10 0, q11, fq11 0, q12, fq12 0, fq12 1, fq12 2, fq12 3, fq12 4, fq12 5, fq12 6, fq12 7, fq12 8, q13, fq13 0, fq13 1, fq13 2, fq13 3, fq13 4, fq13 5, fq13 6, fq13 7, fq13 8, q14, fq14 0, fq14 1, fq14 2, fq14 3, fq14 4, fq14 5, fq14 6, fq14 7, fq14 8, q15, fq15 0, fq15 1, fq15 2, fq15 3, fq15 4, fq15 5, fq15 6, fq15 7, fq15 8, q16, fq16 0, fq16 1, q17, fq17 0, fq17 1, q18, fq18 0, fq18 1, q19, fq19 0, fq19 1, q20, fq20 0, fq20 1, q21, fq21 0, fq21 1, q22, fq22 0, fq22 1, q23, fq23 0, fq23 1, q24, fq24 0, fq24 1]).getD j 0) ta dh_r1 3 ((((([] ++ sg_Tape) ++ sg_LawReader) ++ sg_Tale) ++ sg_Walks) ++ sg_Rivals) := by
    have hq : dh_so (fun j => (h0 :: [q2, q3, q1, fq1 0, q4, fq4 0, fq4 1, fq4 2, fq4 3, fq4 4, fq4 5, fq4 6, fq4 7, q5, fq5 0, fq5 1, q6, fq6 0, fq6 1, fq6 2, fq6 3, fq6 4, q7, fq7 0, fq7 1, fq7 2, fq7 3, fq7 4, q8, fq8 0, fq8 1, fq8 2, fq8 3, fq8 4, fq8 5, fq8 6, fq8 7, fq8 8, fq8 9, fq8 10, fq8 11, fq8 12, fq8 13, fq8 14, fq8 15, fq8 16, fq8 17, fq8 18, fq8 19, fq8 20, fq8 21, fq8 22, fq8 23, fq8 24, fq8 25, fq8 26, fq8 27, fq8 28, fq8 29, fq8 30, fq8 31, fq8 32, fq8 33, fq8 34, fq8 35, fq8 36, fq8 37, fq8 38, fq8 39, fq8 40, fq8 41, fq8 42, fq8 43, fq8 44, q9, q10, fq10 0, q11, fq11 0, q12, fq12 0, fq12 1, fq12 2, fq12 3, fq12 4, fq12 5, fq12 6, fq12 7, fq12 8, q13, fq13 0, fq13 1, fq13 2, fq13 3, fq13 4, fq13 5, fq13 6, fq13 7, fq13 8, q14, fq14 0, fq14 1, fq14 2, fq14 3, fq14 4, fq14 5, fq14 6, fq14 7, fq14 8, q15, fq15 0, fq15 1, fq15 2, fq15 3, fq15 4, fq15 5, fq15 6, fq15 7, fq15 8, q16, fq16 0, fq16 1, q17, fq17 0, fq17 1, q18, fq18 0, fq18 1, q19, fq19 0, fq19 1, q20, fq20 0, fq20 1, q21, fq21 0, fq21 1, q22, fq22 0, fq22 1, q23, fq23 0, fq23 1, q24, fq24 0, fq24 1]).getD j 0) ta dh_r1 (3 + 20) sg_Rivals = dh_sg ta sg_Rivals dh_z (q7 :: (List.range 5).map fq7) := dh_so_sg (n := 6) rfl (fun j hj => by
      match j, hj with
      | 0, _ => rfl
      | 1, _ => rfl
      | 2, _ => rfl
      | 3, _ => rfl
      | 4, _ => rfl
      | 5, _ => rfl
      | k + 6, hj => exact absurd hj (by omega)) (hr1 _ (by omega)) (by decide +kernel)
    rw [eT_5, hT_4, ← hq]
    exact (dh_sgG_app (s1 := (((([] ++ sg_Tape) ++ sg_LawReader) ++ sg_Tale) ++ sg_Walks)) (s2 := sg_Rivals) (o := 3)).symm
  have hT_6 : T_6 = dh_so (fun j => (h0 :: [q2, q3, q1, fq1 0, q4, fq4 0, fq4 1, fq4 2, fq4 3, fq4 4, fq4 5, fq4 6, fq4 7, q5, fq5 0, fq5 1, q6, fq6 0, fq6 1, fq6 2, fq6 3, fq6 4, q7, fq7 0, fq7 1, fq7 2, fq7 3, fq7 4, q8, fq8 0, fq8 1, fq8 2, fq8 3, fq8 4, fq8 5, fq8 6, fq8 7, fq8 8, fq8 9, fq8 10, fq8 11, fq8 12, fq8 13, fq8 14, fq8 15, fq8 16, fq8 17, fq8 18, fq8 19, fq8 20, fq8 21, fq8 22, fq8 23, fq8 24, fq8 25, fq8 26, fq8 27, fq8 28, fq8 29, fq8 30, fq8 31, fq8 32, fq8 33, fq8 34, fq8 35, fq8 36, fq8 37, fq8 38, fq8 39, fq8 40, fq8 41, fq8 42, fq8 43, fq8 44, q9, q10, fq10 0, q11, fq11 0, q12, fq12 0, fq12 1, fq12 2, fq12 3, fq12 4, fq12 5, fq12 6, fq12 7, fq12 8, q13, fq13 0, fq13 1, fq13 2, fq13 3, fq13 4, fq13 5, fq13 6, fq13 7, fq13 8, q14, fq14 0, fq14 1, fq14 2, fq14 3, fq14 4, fq14 5, fq14 6, fq14 7, fq14 8, q15, fq15 0, fq15 1, fq15 2, fq15 3, fq15 4, fq15 5, fq15 6, fq15 7, fq15 8, q16, fq16 0, fq16 1, q17, fq17 0, fq17 1, q18, fq18 0, fq18 1, q19, fq19 0, fq19 1, q20, fq20 0, fq20 1, q21, fq21 0, fq21 1, q22, fq22 0, fq22 1, q23, fq23 0, fq23 1, q24, fq24 0, fq24 1]).getD j 0) ta dh_r1 3 (((((([] ++ sg_Tape) ++ sg_LawReader) ++ sg_Tale) ++ sg_Walks) ++ sg_Rivals) ++ sg_Numbers) := by
    have hq : dh_so (fun j => (h0 :: [q2, q3, q1, fq1 0, q4, fq4 0, fq4 1, fq4 2, fq4 3, fq4 4, fq4 5, fq4 6, fq4 7, q5, fq5 0, fq5 1, q6, fq6 0, fq6 1, fq6 2, fq6 3, fq6 4, q7, fq7 0, fq7 1, fq7 2, fq7 3, fq7 4, q8, fq8 0, fq8 1, fq8 2, fq8 3, fq8 4, fq8 5, fq8 6, fq8 7, fq8 8, fq8 9, fq8 10, fq8 11, fq8 12, fq8 13, fq8 14, fq8 15, fq8 16, fq8 17, fq8 18, fq8 19, fq8 20, fq8 21, fq8 22, fq8 23, fq8 24, fq8 25, fq8 26, fq8 27, fq8 28, fq8 29, fq8 30, fq8 31, fq8 32, fq8 33, fq8 34, fq8 35, fq8 36, fq8 37, fq8 38, fq8 39, fq8 40, fq8 41, fq8 42, fq8 43, fq8 44, q9, q10, fq10 0, q11, fq11 0, q12, fq12 0, fq12 1, fq12 2, fq12 3, fq12 4, fq12 5, fq12 6, fq12 7, fq12 8, q13, fq13 0, fq13 1, fq13 2, fq13 3, fq13 4, fq13 5, fq13 6, fq13 7, fq13 8, q14, fq14 0, fq14 1, fq14 2, fq14 3, fq14 4, fq14 5, fq14 6, fq14 7, fq14 8, q15, fq15 0, fq15 1, fq15 2, fq15 3, fq15 4, fq15 5, fq15 6, fq15 7, fq15 8, q16, fq16 0, fq16 1, q17, fq17 0, fq17 1, q18, fq18 0, fq18 1, q19, fq19 0, fq19 1, q20, fq20 0, fq20 1, q21, fq21 0, fq21 1, q22, fq22 0, fq22 1, q23, fq23 0, fq23 1, q24, fq24 0, fq24 1]).getD j 0) ta dh_r1 (3 + 26) sg_Numbers = dh_sg ta sg_Numbers dh_z (q8 :: (List.range 45).map fq8) := dh_so_sg (n := 46) rfl (fun j hj => by
      match j, hj with
      | 0, _ => rfl
      | 1, _ => rfl
      | 2, _ => rfl
      | 3, _ => rfl
      | 4, _ => rfl
      | 5, _ => rfl
      | 6, _ => rfl
      | 7, _ => rfl
      | 8, _ => rfl
      | 9, _ => rfl
      | 10, _ => rfl
      | 11, _ => rfl
      | 12, _ => rfl
      | 13, _ => rfl
      | 14, _ => rfl
      | 15, _ => rfl
      | 16, _ => rfl
      | 17, _ => rfl
      | 18, _ => rfl
      | 19, _ => rfl
      | 20, _ => rfl
      | 21, _ => rfl
      | 22, _ => rfl
      | 23, _ => rfl
      | 24, _ => rfl
      | 25, _ => rfl
      | 26, _ => rfl
      | 27, _ => rfl
      | 28, _ => rfl
      | 29, _ => rfl
      | 30, _ => rfl
      | 31, _ => rfl
      | 32, _ => rfl
      | 33, _ => rfl
      | 34, _ => rfl
      | 35, _ => rfl
      | 36, _ => rfl
      | 37, _ => rfl
      | 38, _ => rfl
      | 39, _ => rfl
      | 40, _ => rfl
      | 41, _ => rfl
      | 42, _ => rfl
      | 43, _ => rfl
      | 44, _ => rfl
      | 45, _ => rfl
      | k + 46, hj => exact absurd hj (by omega)) (hr1 _ (by omega)) (by decide +kernel)
    rw [eT_6, hT_5, ← hq]
    exact (dh_sgG_app (s1 := ((((([] ++ sg_Tape) ++ sg_LawReader) ++ sg_Tale) ++ sg_Walks) ++ sg_Rivals)) (s2 := sg_Numbers) (o := 3)).symm
  have hT_7 : T_7 = dh_so (fun j => (h0 :: [q2, q3, q1, fq1 0, q4, fq4 0, fq4 1, fq4 2, fq4 3, fq4 4, fq4 5, fq4 6, fq4 7, q5, fq5 0, fq5 1, q6, fq6 0, fq6 1, fq6 2, fq6 3, fq6 4, q7, fq7 0, fq7 1, fq7 2, fq7 3, fq7 4, q8, fq8 0, fq8 1, fq8 2, fq8 3, fq8 4, fq8 5, fq8 6, fq8 7, fq8 8, fq8 9, fq8 10, fq8 11, fq8 12, fq8 13, fq8 14, fq8 15, fq8 16, fq8 17, fq8 18, fq8 19, fq8 20, fq8 21, fq8 22, fq8 23, fq8 24, fq8 25, fq8 26, fq8 27, fq8 28, fq8 29, fq8 30, fq8 31, fq8 32, fq8 33, fq8 34, fq8 35, fq8 36, fq8 37, fq8 38, fq8 39, fq8 40, fq8 41, fq8 42, fq8 43, fq8 44, q9, q10, fq10 0, q11, fq11 0, q12, fq12 0, fq12 1, fq12 2, fq12 3, fq12 4, fq12 5, fq12 6, fq12 7, fq12 8, q13, fq13 0, fq13 1, fq13 2, fq13 3, fq13 4, fq13 5, fq13 6, fq13 7, fq13 8, q14, fq14 0, fq14 1, fq14 2, fq14 3, fq14 4, fq14 5, fq14 6, fq14 7, fq14 8, q15, fq15 0, fq15 1, fq15 2, fq15 3, fq15 4, fq15 5, fq15 6, fq15 7, fq15 8, q16, fq16 0, fq16 1, q17, fq17 0, fq17 1, q18, fq18 0, fq18 1, q19, fq19 0, fq19 1, q20, fq20 0, fq20 1, q21, fq21 0, fq21 1, q22, fq22 0, fq22 1, q23, fq23 0, fq23 1, q24, fq24 0, fq24 1]).getD j 0) ta dh_r1 3 ((((((([] ++ sg_Tape) ++ sg_LawReader) ++ sg_Tale) ++ sg_Walks) ++ sg_Rivals) ++ sg_Numbers) ++ sg_Evening) := by
    have hq : dh_so (fun j => (h0 :: [q2, q3, q1, fq1 0, q4, fq4 0, fq4 1, fq4 2, fq4 3, fq4 4, fq4 5, fq4 6, fq4 7, q5, fq5 0, fq5 1, q6, fq6 0, fq6 1, fq6 2, fq6 3, fq6 4, q7, fq7 0, fq7 1, fq7 2, fq7 3, fq7 4, q8, fq8 0, fq8 1, fq8 2, fq8 3, fq8 4, fq8 5, fq8 6, fq8 7, fq8 8, fq8 9, fq8 10, fq8 11, fq8 12, fq8 13, fq8 14, fq8 15, fq8 16, fq8 17, fq8 18, fq8 19, fq8 20, fq8 21, fq8 22, fq8 23, fq8 24, fq8 25, fq8 26, fq8 27, fq8 28, fq8 29, fq8 30, fq8 31, fq8 32, fq8 33, fq8 34, fq8 35, fq8 36, fq8 37, fq8 38, fq8 39, fq8 40, fq8 41, fq8 42, fq8 43, fq8 44, q9, q10, fq10 0, q11, fq11 0, q12, fq12 0, fq12 1, fq12 2, fq12 3, fq12 4, fq12 5, fq12 6, fq12 7, fq12 8, q13, fq13 0, fq13 1, fq13 2, fq13 3, fq13 4, fq13 5, fq13 6, fq13 7, fq13 8, q14, fq14 0, fq14 1, fq14 2, fq14 3, fq14 4, fq14 5, fq14 6, fq14 7, fq14 8, q15, fq15 0, fq15 1, fq15 2, fq15 3, fq15 4, fq15 5, fq15 6, fq15 7, fq15 8, q16, fq16 0, fq16 1, q17, fq17 0, fq17 1, q18, fq18 0, fq18 1, q19, fq19 0, fq19 1, q20, fq20 0, fq20 1, q21, fq21 0, fq21 1, q22, fq22 0, fq22 1, q23, fq23 0, fq23 1, q24, fq24 0, fq24 1]).getD j 0) ta dh_r1 (3 + 72) sg_Evening = dh_sg ta sg_Evening dh_z (q9 :: (List.range 0).map fq9) := dh_so_sg (n := 1) rfl (fun j hj => by
      match j, hj with
      | 0, _ => rfl
      | k + 1, hj => exact absurd hj (by omega)) (hr1 _ (by omega)) (by decide +kernel)
    rw [eT_7, hT_6, ← hq]
    exact (dh_sgG_app (s1 := (((((([] ++ sg_Tape) ++ sg_LawReader) ++ sg_Tale) ++ sg_Walks) ++ sg_Rivals) ++ sg_Numbers)) (s2 := sg_Evening) (o := 3)).symm
  have hT_8 : T_8 = dh_so (fun j => (h0 :: [q2, q3, q1, fq1 0, q4, fq4 0, fq4 1, fq4 2, fq4 3, fq4 4, fq4 5, fq4 6, fq4 7, q5, fq5 0, fq5 1, q6, fq6 0, fq6 1, fq6 2, fq6 3, fq6 4, q7, fq7 0, fq7 1, fq7 2, fq7 3, fq7 4, q8, fq8 0, fq8 1, fq8 2, fq8 3, fq8 4, fq8 5, fq8 6, fq8 7, fq8 8, fq8 9, fq8 10, fq8 11, fq8 12, fq8 13, fq8 14, fq8 15, fq8 16, fq8 17, fq8 18, fq8 19, fq8 20, fq8 21, fq8 22, fq8 23, fq8 24, fq8 25, fq8 26, fq8 27, fq8 28, fq8 29, fq8 30, fq8 31, fq8 32, fq8 33, fq8 34, fq8 35, fq8 36, fq8 37, fq8 38, fq8 39, fq8 40, fq8 41, fq8 42, fq8 43, fq8 44, q9, q10, fq10 0, q11, fq11 0, q12, fq12 0, fq12 1, fq12 2, fq12 3, fq12 4, fq12 5, fq12 6, fq12 7, fq12 8, q13, fq13 0, fq13 1, fq13 2, fq13 3, fq13 4, fq13 5, fq13 6, fq13 7, fq13 8, q14, fq14 0, fq14 1, fq14 2, fq14 3, fq14 4, fq14 5, fq14 6, fq14 7, fq14 8, q15, fq15 0, fq15 1, fq15 2, fq15 3, fq15 4, fq15 5, fq15 6, fq15 7, fq15 8, q16, fq16 0, fq16 1, q17, fq17 0, fq17 1, q18, fq18 0, fq18 1, q19, fq19 0, fq19 1, q20, fq20 0, fq20 1, q21, fq21 0, fq21 1, q22, fq22 0, fq22 1, q23, fq23 0, fq23 1, q24, fq24 0, fq24 1]).getD j 0) ta dh_r1 3 (((((((([] ++ sg_Tape) ++ sg_LawReader) ++ sg_Tale) ++ sg_Walks) ++ sg_Rivals) ++ sg_Numbers) ++ sg_Evening) ++ sg_Stove) := by
    have hq : dh_so (fun j => (h0 :: [q2, q3, q1, fq1 0, q4, fq4 0, fq4 1, fq4 2, fq4 3, fq4 4, fq4 5, fq4 6, fq4 7, q5, fq5 0, fq5 1, q6, fq6 0, fq6 1, fq6 2, fq6 3, fq6 4, q7, fq7 0, fq7 1, fq7 2, fq7 3, fq7 4, q8, fq8 0, fq8 1, fq8 2, fq8 3, fq8 4, fq8 5, fq8 6, fq8 7, fq8 8, fq8 9, fq8 10, fq8 11, fq8 12, fq8 13, fq8 14, fq8 15, fq8 16, fq8 17, fq8 18, fq8 19, fq8 20, fq8 21, fq8 22, fq8 23, fq8 24, fq8 25, fq8 26, fq8 27, fq8 28, fq8 29, fq8 30, fq8 31, fq8 32, fq8 33, fq8 34, fq8 35, fq8 36, fq8 37, fq8 38, fq8 39, fq8 40, fq8 41, fq8 42, fq8 43, fq8 44, q9, q10, fq10 0, q11, fq11 0, q12, fq12 0, fq12 1, fq12 2, fq12 3, fq12 4, fq12 5, fq12 6, fq12 7, fq12 8, q13, fq13 0, fq13 1, fq13 2, fq13 3, fq13 4, fq13 5, fq13 6, fq13 7, fq13 8, q14, fq14 0, fq14 1, fq14 2, fq14 3, fq14 4, fq14 5, fq14 6, fq14 7, fq14 8, q15, fq15 0, fq15 1, fq15 2, fq15 3, fq15 4, fq15 5, fq15 6, fq15 7, fq15 8, q16, fq16 0, fq16 1, q17, fq17 0, fq17 1, q18, fq18 0, fq18 1, q19, fq19 0, fq19 1, q20, fq20 0, fq20 1, q21, fq21 0, fq21 1, q22, fq22 0, fq22 1, q23, fq23 0, fq23 1, q24, fq24 0, fq24 1]).getD j 0) ta dh_r1 (3 + 73) sg_Stove = dh_sg ta sg_Stove dh_z (q10 :: (List.range 1).map fq10) := dh_so_sg (n := 2) rfl (fun j hj => by
      match j, hj with
      | 0, _ => rfl
      | 1, _ => rfl
      | k + 2, hj => exact absurd hj (by omega)) (hr1 _ (by omega)) (by decide +kernel)
    rw [eT_8, hT_7, ← hq]
    exact (dh_sgG_app (s1 := ((((((([] ++ sg_Tape) ++ sg_LawReader) ++ sg_Tale) ++ sg_Walks) ++ sg_Rivals) ++ sg_Numbers) ++ sg_Evening)) (s2 := sg_Stove) (o := 3)).symm
  have hT_9 : T_9 = dh_so (fun j => (h0 :: [q2, q3, q1, fq1 0, q4, fq4 0, fq4 1, fq4 2, fq4 3, fq4 4, fq4 5, fq4 6, fq4 7, q5, fq5 0, fq5 1, q6, fq6 0, fq6 1, fq6 2, fq6 3, fq6 4, q7, fq7 0, fq7 1, fq7 2, fq7 3, fq7 4, q8, fq8 0, fq8 1, fq8 2, fq8 3, fq8 4, fq8 5, fq8 6, fq8 7, fq8 8, fq8 9, fq8 10, fq8 11, fq8 12, fq8 13, fq8 14, fq8 15, fq8 16, fq8 17, fq8 18, fq8 19, fq8 20, fq8 21, fq8 22, fq8 23, fq8 24, fq8 25, fq8 26, fq8 27, fq8 28, fq8 29, fq8 30, fq8 31, fq8 32, fq8 33, fq8 34, fq8 35, fq8 36, fq8 37, fq8 38, fq8 39, fq8 40, fq8 41, fq8 42, fq8 43, fq8 44, q9, q10, fq10 0, q11, fq11 0, q12, fq12 0, fq12 1, fq12 2, fq12 3, fq12 4, fq12 5, fq12 6, fq12 7, fq12 8, q13, fq13 0, fq13 1, fq13 2, fq13 3, fq13 4, fq13 5, fq13 6, fq13 7, fq13 8, q14, fq14 0, fq14 1, fq14 2, fq14 3, fq14 4, fq14 5, fq14 6, fq14 7, fq14 8, q15, fq15 0, fq15 1, fq15 2, fq15 3, fq15 4, fq15 5, fq15 6, fq15 7, fq15 8, q16, fq16 0, fq16 1, q17, fq17 0, fq17 1, q18, fq18 0, fq18 1, q19, fq19 0, fq19 1, q20, fq20 0, fq20 1, q21, fq21 0, fq21 1, q22, fq22 0, fq22 1, q23, fq23 0, fq23 1, q24, fq24 0, fq24 1]).getD j 0) ta dh_r1 3 ((((((((([] ++ sg_Tape) ++ sg_LawReader) ++ sg_Tale) ++ sg_Walks) ++ sg_Rivals) ++ sg_Numbers) ++ sg_Evening) ++ sg_Stove) ++ sg_Stove) := by
    have hq : dh_so (fun j => (h0 :: [q2, q3, q1, fq1 0, q4, fq4 0, fq4 1, fq4 2, fq4 3, fq4 4, fq4 5, fq4 6, fq4 7, q5, fq5 0, fq5 1, q6, fq6 0, fq6 1, fq6 2, fq6 3, fq6 4, q7, fq7 0, fq7 1, fq7 2, fq7 3, fq7 4, q8, fq8 0, fq8 1, fq8 2, fq8 3, fq8 4, fq8 5, fq8 6, fq8 7, fq8 8, fq8 9, fq8 10, fq8 11, fq8 12, fq8 13, fq8 14, fq8 15, fq8 16, fq8 17, fq8 18, fq8 19, fq8 20, fq8 21, fq8 22, fq8 23, fq8 24, fq8 25, fq8 26, fq8 27, fq8 28, fq8 29, fq8 30, fq8 31, fq8 32, fq8 33, fq8 34, fq8 35, fq8 36, fq8 37, fq8 38, fq8 39, fq8 40, fq8 41, fq8 42, fq8 43, fq8 44, q9, q10, fq10 0, q11, fq11 0, q12, fq12 0, fq12 1, fq12 2, fq12 3, fq12 4, fq12 5, fq12 6, fq12 7, fq12 8, q13, fq13 0, fq13 1, fq13 2, fq13 3, fq13 4, fq13 5, fq13 6, fq13 7, fq13 8, q14, fq14 0, fq14 1, fq14 2, fq14 3, fq14 4, fq14 5, fq14 6, fq14 7, fq14 8, q15, fq15 0, fq15 1, fq15 2, fq15 3, fq15 4, fq15 5, fq15 6, fq15 7, fq15 8, q16, fq16 0, fq16 1, q17, fq17 0, fq17 1, q18, fq18 0, fq18 1, q19, fq19 0, fq19 1, q20, fq20 0, fq20 1, q21, fq21 0, fq21 1, q22, fq22 0, fq22 1, q23, fq23 0, fq23 1, q24, fq24 0, fq24 1]).getD j 0) ta dh_r1 (3 + 75) sg_Stove = dh_sg ta sg_Stove dh_z (q11 :: (List.range 1).map fq11) := dh_so_sg (n := 2) rfl (fun j hj => by
      match j, hj with
      | 0, _ => rfl
      | 1, _ => rfl
      | k + 2, hj => exact absurd hj (by omega)) (hr1 _ (by omega)) (by decide +kernel)
    rw [eT_9, hT_8, ← hq]
    exact (dh_sgG_app (s1 := (((((((([] ++ sg_Tape) ++ sg_LawReader) ++ sg_Tale) ++ sg_Walks) ++ sg_Rivals) ++ sg_Numbers) ++ sg_Evening) ++ sg_Stove)) (s2 := sg_Stove) (o := 3)).symm
  have hT_10 : T_10 = dh_so (fun j => (h0 :: [q2, q3, q1, fq1 0, q4, fq4 0, fq4 1, fq4 2, fq4 3, fq4 4, fq4 5, fq4 6, fq4 7, q5, fq5 0, fq5 1, q6, fq6 0, fq6 1, fq6 2, fq6 3, fq6 4, q7, fq7 0, fq7 1, fq7 2, fq7 3, fq7 4, q8, fq8 0, fq8 1, fq8 2, fq8 3, fq8 4, fq8 5, fq8 6, fq8 7, fq8 8, fq8 9, fq8 10, fq8 11, fq8 12, fq8 13, fq8 14, fq8 15, fq8 16, fq8 17, fq8 18, fq8 19, fq8 20, fq8 21, fq8 22, fq8 23, fq8 24, fq8 25, fq8 26, fq8 27, fq8 28, fq8 29, fq8 30, fq8 31, fq8 32, fq8 33, fq8 34, fq8 35, fq8 36, fq8 37, fq8 38, fq8 39, fq8 40, fq8 41, fq8 42, fq8 43, fq8 44, q9, q10, fq10 0, q11, fq11 0, q12, fq12 0, fq12 1, fq12 2, fq12 3, fq12 4, fq12 5, fq12 6, fq12 7, fq12 8, q13, fq13 0, fq13 1, fq13 2, fq13 3, fq13 4, fq13 5, fq13 6, fq13 7, fq13 8, q14, fq14 0, fq14 1, fq14 2, fq14 3, fq14 4, fq14 5, fq14 6, fq14 7, fq14 8, q15, fq15 0, fq15 1, fq15 2, fq15 3, fq15 4, fq15 5, fq15 6, fq15 7, fq15 8, q16, fq16 0, fq16 1, q17, fq17 0, fq17 1, q18, fq18 0, fq18 1, q19, fq19 0, fq19 1, q20, fq20 0, fq20 1, q21, fq21 0, fq21 1, q22, fq22 0, fq22 1, q23, fq23 0, fq23 1, q24, fq24 0, fq24 1]).getD j 0) ta dh_r1 3 (((((((((([] ++ sg_Tape) ++ sg_LawReader) ++ sg_Tale) ++ sg_Walks) ++ sg_Rivals) ++ sg_Numbers) ++ sg_Evening) ++ sg_Stove) ++ sg_Stove) ++ sg_Law) := by
    have hq : dh_so (fun j => (h0 :: [q2, q3, q1, fq1 0, q4, fq4 0, fq4 1, fq4 2, fq4 3, fq4 4, fq4 5, fq4 6, fq4 7, q5, fq5 0, fq5 1, q6, fq6 0, fq6 1, fq6 2, fq6 3, fq6 4, q7, fq7 0, fq7 1, fq7 2, fq7 3, fq7 4, q8, fq8 0, fq8 1, fq8 2, fq8 3, fq8 4, fq8 5, fq8 6, fq8 7, fq8 8, fq8 9, fq8 10, fq8 11, fq8 12, fq8 13, fq8 14, fq8 15, fq8 16, fq8 17, fq8 18, fq8 19, fq8 20, fq8 21, fq8 22, fq8 23, fq8 24, fq8 25, fq8 26, fq8 27, fq8 28, fq8 29, fq8 30, fq8 31, fq8 32, fq8 33, fq8 34, fq8 35, fq8 36, fq8 37, fq8 38, fq8 39, fq8 40, fq8 41, fq8 42, fq8 43, fq8 44, q9, q10, fq10 0, q11, fq11 0, q12, fq12 0, fq12 1, fq12 2, fq12 3, fq12 4, fq12 5, fq12 6, fq12 7, fq12 8, q13, fq13 0, fq13 1, fq13 2, fq13 3, fq13 4, fq13 5, fq13 6, fq13 7, fq13 8, q14, fq14 0, fq14 1, fq14 2, fq14 3, fq14 4, fq14 5, fq14 6, fq14 7, fq14 8, q15, fq15 0, fq15 1, fq15 2, fq15 3, fq15 4, fq15 5, fq15 6, fq15 7, fq15 8, q16, fq16 0, fq16 1, q17, fq17 0, fq17 1, q18, fq18 0, fq18 1, q19, fq19 0, fq19 1, q20, fq20 0, fq20 1, q21, fq21 0, fq21 1, q22, fq22 0, fq22 1, q23, fq23 0, fq23 1, q24, fq24 0, fq24 1]).getD j 0) ta dh_r1 (3 + 77) sg_Law = dh_sg ta sg_Law dh_z (q12 :: (List.range 9).map fq12) := dh_so_sg (n := 10) rfl (fun j hj => by
      match j, hj with
      | 0, _ => rfl
      | 1, _ => rfl
      | 2, _ => rfl
      | 3, _ => rfl
      | 4, _ => rfl
      | 5, _ => rfl
      | 6, _ => rfl
      | 7, _ => rfl
      | 8, _ => rfl
      | 9, _ => rfl
      | k + 10, hj => exact absurd hj (by omega)) (hr1 _ (by omega)) (by decide +kernel)
    rw [eT_10, hT_9, ← hq]
    exact (dh_sgG_app (s1 := ((((((((([] ++ sg_Tape) ++ sg_LawReader) ++ sg_Tale) ++ sg_Walks) ++ sg_Rivals) ++ sg_Numbers) ++ sg_Evening) ++ sg_Stove) ++ sg_Stove)) (s2 := sg_Law) (o := 3)).symm
  have hT_11 : T_11 = dh_so (fun j => (h0 :: [q2, q3, q1, fq1 0, q4, fq4 0, fq4 1, fq4 2, fq4 3, fq4 4, fq4 5, fq4 6, fq4 7, q5, fq5 0, fq5 1, q6, fq6 0, fq6 1, fq6 2, fq6 3, fq6 4, q7, fq7 0, fq7 1, fq7 2, fq7 3, fq7 4, q8, fq8 0, fq8 1, fq8 2, fq8 3, fq8 4, fq8 5, fq8 6, fq8 7, fq8 8, fq8 9, fq8 10, fq8 11, fq8 12, fq8 13, fq8 14, fq8 15, fq8 16, fq8 17, fq8 18, fq8 19, fq8 20, fq8 21, fq8 22, fq8 23, fq8 24, fq8 25, fq8 26, fq8 27, fq8 28, fq8 29, fq8 30, fq8 31, fq8 32, fq8 33, fq8 34, fq8 35, fq8 36, fq8 37, fq8 38, fq8 39, fq8 40, fq8 41, fq8 42, fq8 43, fq8 44, q9, q10, fq10 0, q11, fq11 0, q12, fq12 0, fq12 1, fq12 2, fq12 3, fq12 4, fq12 5, fq12 6, fq12 7, fq12 8, q13, fq13 0, fq13 1, fq13 2, fq13 3, fq13 4, fq13 5, fq13 6, fq13 7, fq13 8, q14, fq14 0, fq14 1, fq14 2, fq14 3, fq14 4, fq14 5, fq14 6, fq14 7, fq14 8, q15, fq15 0, fq15 1, fq15 2, fq15 3, fq15 4, fq15 5, fq15 6, fq15 7, fq15 8, q16, fq16 0, fq16 1, q17, fq17 0, fq17 1, q18, fq18 0, fq18 1, q19, fq19 0, fq19 1, q20, fq20 0, fq20 1, q21, fq21 0, fq21 1, q22, fq22 0, fq22 1, q23, fq23 0, fq23 1, q24, fq24 0, fq24 1]).getD j 0) ta dh_r1 3 ((((((((((([] ++ sg_Tape) ++ sg_LawReader) ++ sg_Tale) ++ sg_Walks) ++ sg_Rivals) ++ sg_Numbers) ++ sg_Evening) ++ sg_Stove) ++ sg_Stove) ++ sg_Law) ++ sg_Law) := by
    have hq : dh_so (fun j => (h0 :: [q2, q3, q1, fq1 0, q4, fq4 0, fq4 1, fq4 2, fq4 3, fq4 4, fq4 5, fq4 6, fq4 7, q5, fq5 0, fq5 1, q6, fq6 0, fq6 1, fq6 2, fq6 3, fq6 4, q7, fq7 0, fq7 1, fq7 2, fq7 3, fq7 4, q8, fq8 0, fq8 1, fq8 2, fq8 3, fq8 4, fq8 5, fq8 6, fq8 7, fq8 8, fq8 9, fq8 10, fq8 11, fq8 12, fq8 13, fq8 14, fq8 15, fq8 16, fq8 17, fq8 18, fq8 19, fq8 20, fq8 21, fq8 22, fq8 23, fq8 24, fq8 25, fq8 26, fq8 27, fq8 28, fq8 29, fq8 30, fq8 31, fq8 32, fq8 33, fq8 34, fq8 35, fq8 36, fq8 37, fq8 38, fq8 39, fq8 40, fq8 41, fq8 42, fq8 43, fq8 44, q9, q10, fq10 0, q11, fq11 0, q12, fq12 0, fq12 1, fq12 2, fq12 3, fq12 4, fq12 5, fq12 6, fq12 7, fq12 8, q13, fq13 0, fq13 1, fq13 2, fq13 3, fq13 4, fq13 5, fq13 6, fq13 7, fq13 8, q14, fq14 0, fq14 1, fq14 2, fq14 3, fq14 4, fq14 5, fq14 6, fq14 7, fq14 8, q15, fq15 0, fq15 1, fq15 2, fq15 3, fq15 4, fq15 5, fq15 6, fq15 7, fq15 8, q16, fq16 0, fq16 1, q17, fq17 0, fq17 1, q18, fq18 0, fq18 1, q19, fq19 0, fq19 1, q20, fq20 0, fq20 1, q21, fq21 0, fq21 1, q22, fq22 0, fq22 1, q23, fq23 0, fq23 1, q24, fq24 0, fq24 1]).getD j 0) ta dh_r1 (3 + 87) sg_Law = dh_sg ta sg_Law dh_z (q13 :: (List.range 9).map fq13) := dh_so_sg (n := 10) rfl (fun j hj => by
      match j, hj with
      | 0, _ => rfl
      | 1, _ => rfl
      | 2, _ => rfl
      | 3, _ => rfl
      | 4, _ => rfl
      | 5, _ => rfl
      | 6, _ => rfl
      | 7, _ => rfl
      | 8, _ => rfl
      | 9, _ => rfl
      | k + 10, hj => exact absurd hj (by omega)) (hr1 _ (by omega)) (by decide +kernel)
    rw [eT_11, hT_10, ← hq]
    exact (dh_sgG_app (s1 := (((((((((([] ++ sg_Tape) ++ sg_LawReader) ++ sg_Tale) ++ sg_Walks) ++ sg_Rivals) ++ sg_Numbers) ++ sg_Evening) ++ sg_Stove) ++ sg_Stove) ++ sg_Law)) (s2 := sg_Law) (o := 3)).symm
  have hT_12 : T_12 = dh_so (fun j => (h0 :: [q2, q3, q1, fq1 0, q4, fq4 0, fq4 1, fq4 2, fq4 3, fq4 4, fq4 5, fq4 6, fq4 7, q5, fq5 0, fq5 1, q6, fq6 0, fq6 1, fq6 2, fq6 3, fq6 4, q7, fq7 0, fq7 1, fq7 2, fq7 3, fq7 4, q8, fq8 0, fq8 1, fq8 2, fq8 3, fq8 4, fq8 5, fq8 6, fq8 7, fq8 8, fq8 9, fq8 10, fq8 11, fq8 12, fq8 13, fq8 14, fq8 15, fq8 16, fq8 17, fq8 18, fq8 19, fq8 20, fq8 21, fq8 22, fq8 23, fq8 24, fq8 25, fq8 26, fq8 27, fq8 28, fq8 29, fq8 30, fq8 31, fq8 32, fq8 33, fq8 34, fq8 35, fq8 36, fq8 37, fq8 38, fq8 39, fq8 40, fq8 41, fq8 42, fq8 43, fq8 44, q9, q10, fq10 0, q11, fq11 0, q12, fq12 0, fq12 1, fq12 2, fq12 3, fq12 4, fq12 5, fq12 6, fq12 7, fq12 8, q13, fq13 0, fq13 1, fq13 2, fq13 3, fq13 4, fq13 5, fq13 6, fq13 7, fq13 8, q14, fq14 0, fq14 1, fq14 2, fq14 3, fq14 4, fq14 5, fq14 6, fq14 7, fq14 8, q15, fq15 0, fq15 1, fq15 2, fq15 3, fq15 4, fq15 5, fq15 6, fq15 7, fq15 8, q16, fq16 0, fq16 1, q17, fq17 0, fq17 1, q18, fq18 0, fq18 1, q19, fq19 0, fq19 1, q20, fq20 0, fq20 1, q21, fq21 0, fq21 1, q22, fq22 0, fq22 1, q23, fq23 0, fq23 1, q24, fq24 0, fq24 1]).getD j 0) ta dh_r1 3 (((((((((((([] ++ sg_Tape) ++ sg_LawReader) ++ sg_Tale) ++ sg_Walks) ++ sg_Rivals) ++ sg_Numbers) ++ sg_Evening) ++ sg_Stove) ++ sg_Stove) ++ sg_Law) ++ sg_Law) ++ sg_Law) := by
    have hq : dh_so (fun j => (h0 :: [q2, q3, q1, fq1 0, q4, fq4 0, fq4 1, fq4 2, fq4 3, fq4 4, fq4 5, fq4 6, fq4 7, q5, fq5 0, fq5 1, q6, fq6 0, fq6 1, fq6 2, fq6 3, fq6 4, q7, fq7 0, fq7 1, fq7 2, fq7 3, fq7 4, q8, fq8 0, fq8 1, fq8 2, fq8 3, fq8 4, fq8 5, fq8 6, fq8 7, fq8 8, fq8 9, fq8 10, fq8 11, fq8 12, fq8 13, fq8 14, fq8 15, fq8 16, fq8 17, fq8 18, fq8 19, fq8 20, fq8 21, fq8 22, fq8 23, fq8 24, fq8 25, fq8 26, fq8 27, fq8 28, fq8 29, fq8 30, fq8 31, fq8 32, fq8 33, fq8 34, fq8 35, fq8 36, fq8 37, fq8 38, fq8 39, fq8 40, fq8 41, fq8 42, fq8 43, fq8 44, q9, q10, fq10 0, q11, fq11 0, q12, fq12 0, fq12 1, fq12 2, fq12 3, fq12 4, fq12 5, fq12 6, fq12 7, fq12 8, q13, fq13 0, fq13 1, fq13 2, fq13 3, fq13 4, fq13 5, fq13 6, fq13 7, fq13 8, q14, fq14 0, fq14 1, fq14 2, fq14 3, fq14 4, fq14 5, fq14 6, fq14 7, fq14 8, q15, fq15 0, fq15 1, fq15 2, fq15 3, fq15 4, fq15 5, fq15 6, fq15 7, fq15 8, q16, fq16 0, fq16 1, q17, fq17 0, fq17 1, q18, fq18 0, fq18 1, q19, fq19 0, fq19 1, q20, fq20 0, fq20 1, q21, fq21 0, fq21 1, q22, fq22 0, fq22 1, q23, fq23 0, fq23 1, q24, fq24 0, fq24 1]).getD j 0) ta dh_r1 (3 + 97) sg_Law = dh_sg ta sg_Law dh_z (q14 :: (List.range 9).map fq14) := dh_so_sg (n := 10) rfl (fun j hj => by
      match j, hj with
      | 0, _ => rfl
      | 1, _ => rfl
      | 2, _ => rfl
      | 3, _ => rfl
      | 4, _ => rfl
      | 5, _ => rfl
      | 6, _ => rfl
      | 7, _ => rfl
      | 8, _ => rfl
      | 9, _ => rfl
      | k + 10, hj => exact absurd hj (by omega)) (hr1 _ (by omega)) (by decide +kernel)
    rw [eT_12, hT_11, ← hq]
    exact (dh_sgG_app (s1 := ((((((((((([] ++ sg_Tape) ++ sg_LawReader) ++ sg_Tale) ++ sg_Walks) ++ sg_Rivals) ++ sg_Numbers) ++ sg_Evening) ++ sg_Stove) ++ sg_Stove) ++ sg_Law) ++ sg_Law)) (s2 := sg_Law) (o := 3)).symm
  have hT_13 : T_13 = dh_so (fun j => (h0 :: [q2, q3, q1, fq1 0, q4, fq4 0, fq4 1, fq4 2, fq4 3, fq4 4, fq4 5, fq4 6, fq4 7, q5, fq5 0, fq5 1, q6, fq6 0, fq6 1, fq6 2, fq6 3, fq6 4, q7, fq7 0, fq7 1, fq7 2, fq7 3, fq7 4, q8, fq8 0, fq8 1, fq8 2, fq8 3, fq8 4, fq8 5, fq8 6, fq8 7, fq8 8, fq8 9, fq8 10, fq8 11, fq8 12, fq8 13, fq8 14, fq8 15, fq8 16, fq8 17, fq8 18, fq8 19, fq8 20, fq8 21, fq8 22, fq8 23, fq8 24, fq8 25, fq8 26, fq8 27, fq8 28, fq8 29, fq8 30, fq8 31, fq8 32, fq8 33, fq8 34, fq8 35, fq8 36, fq8 37, fq8 38, fq8 39, fq8 40, fq8 41, fq8 42, fq8 43, fq8 44, q9, q10, fq10 0, q11, fq11 0, q12, fq12 0, fq12 1, fq12 2, fq12 3, fq12 4, fq12 5, fq12 6, fq12 7, fq12 8, q13, fq13 0, fq13 1, fq13 2, fq13 3, fq13 4, fq13 5, fq13 6, fq13 7, fq13 8, q14, fq14 0, fq14 1, fq14 2, fq14 3, fq14 4, fq14 5, fq14 6, fq14 7, fq14 8, q15, fq15 0, fq15 1, fq15 2, fq15 3, fq15 4, fq15 5, fq15 6, fq15 7, fq15 8, q16, fq16 0, fq16 1, q17, fq17 0, fq17 1, q18, fq18 0, fq18 1, q19, fq19 0, fq19 1, q20, fq20 0, fq20 1, q21, fq21 0, fq21 1, q22, fq22 0, fq22 1, q23, fq23 0, fq23 1, q24, fq24 0, fq24 1]).getD j 0) ta dh_r1 3 ((((((((((((([] ++ sg_Tape) ++ sg_LawReader) ++ sg_Tale) ++ sg_Walks) ++ sg_Rivals) ++ sg_Numbers) ++ sg_Evening) ++ sg_Stove) ++ sg_Stove) ++ sg_Law) ++ sg_Law) ++ sg_Law) ++ sg_Law) := by
    have hq : dh_so (fun j => (h0 :: [q2, q3, q1, fq1 0, q4, fq4 0, fq4 1, fq4 2, fq4 3, fq4 4, fq4 5, fq4 6, fq4 7, q5, fq5 0, fq5 1, q6, fq6 0, fq6 1, fq6 2, fq6 3, fq6 4, q7, fq7 0, fq7 1, fq7 2, fq7 3, fq7 4, q8, fq8 0, fq8 1, fq8 2, fq8 3, fq8 4, fq8 5, fq8 6, fq8 7, fq8 8, fq8 9, fq8 10, fq8 11, fq8 12, fq8 13, fq8 14, fq8 15, fq8 16, fq8 17, fq8 18, fq8 19, fq8 20, fq8 21, fq8 22, fq8 23, fq8 24, fq8 25, fq8 26, fq8 27, fq8 28, fq8 29, fq8 30, fq8 31, fq8 32, fq8 33, fq8 34, fq8 35, fq8 36, fq8 37, fq8 38, fq8 39, fq8 40, fq8 41, fq8 42, fq8 43, fq8 44, q9, q10, fq10 0, q11, fq11 0, q12, fq12 0, fq12 1, fq12 2, fq12 3, fq12 4, fq12 5, fq12 6, fq12 7, fq12 8, q13, fq13 0, fq13 1, fq13 2, fq13 3, fq13 4, fq13 5, fq13 6, fq13 7, fq13 8, q14, fq14 0, fq14 1, fq14 2, fq14 3, fq14 4, fq14 5, fq14 6, fq14 7, fq14 8, q15, fq15 0, fq15 1, fq15 2, fq15 3, fq15 4, fq15 5, fq15 6, fq15 7, fq15 8, q16, fq16 0, fq16 1, q17, fq17 0, fq17 1, q18, fq18 0, fq18 1, q19, fq19 0, fq19 1, q20, fq20 0, fq20 1, q21, fq21 0, fq21 1, q22, fq22 0, fq22 1, q23, fq23 0, fq23 1, q24, fq24 0, fq24 1]).getD j 0) ta dh_r1 (3 + 107) sg_Law = dh_sg ta sg_Law dh_z (q15 :: (List.range 9).map fq15) := dh_so_sg (n := 10) rfl (fun j hj => by
      match j, hj with
      | 0, _ => rfl
      | 1, _ => rfl
      | 2, _ => rfl
      | 3, _ => rfl
      | 4, _ => rfl
      | 5, _ => rfl
      | 6, _ => rfl
      | 7, _ => rfl
      | 8, _ => rfl
      | 9, _ => rfl
      | k + 10, hj => exact absurd hj (by omega)) (hr1 _ (by omega)) (by decide +kernel)
    rw [eT_13, hT_12, ← hq]
    exact (dh_sgG_app (s1 := (((((((((((([] ++ sg_Tape) ++ sg_LawReader) ++ sg_Tale) ++ sg_Walks) ++ sg_Rivals) ++ sg_Numbers) ++ sg_Evening) ++ sg_Stove) ++ sg_Stove) ++ sg_Law) ++ sg_Law) ++ sg_Law)) (s2 := sg_Law) (o := 3)).symm
  have hT_14 : T_14 = dh_so (fun j => (h0 :: [q2, q3, q1, fq1 0, q4, fq4 0, fq4 1, fq4 2, fq4 3, fq4 4, fq4 5, fq4 6, fq4 7, q5, fq5 0, fq5 1, q6, fq6 0, fq6 1, fq6 2, fq6 3, fq6 4, q7, fq7 0, fq7 1, fq7 2, fq7 3, fq7 4, q8, fq8 0, fq8 1, fq8 2, fq8 3, fq8 4, fq8 5, fq8 6, fq8 7, fq8 8, fq8 9, fq8 10, fq8 11, fq8 12, fq8 13, fq8 14, fq8 15, fq8 16, fq8 17, fq8 18, fq8 19, fq8 20, fq8 21, fq8 22, fq8 23, fq8 24, fq8 25, fq8 26, fq8 27, fq8 28, fq8 29, fq8 30, fq8 31, fq8 32, fq8 33, fq8 34, fq8 35, fq8 36, fq8 37, fq8 38, fq8 39, fq8 40, fq8 41, fq8 42, fq8 43, fq8 44, q9, q10, fq10 0, q11, fq11 0, q12, fq12 0, fq12 1, fq12 2, fq12 3, fq12 4, fq12 5, fq12 6, fq12 7, fq12 8, q13, fq13 0, fq13 1, fq13 2, fq13 3, fq13 4, fq13 5, fq13 6, fq13 7, fq13 8, q14, fq14 0, fq14 1, fq14 2, fq14 3, fq14 4, fq14 5, fq14 6, fq14 7, fq14 8, q15, fq15 0, fq15 1, fq15 2, fq15 3, fq15 4, fq15 5, fq15 6, fq15 7, fq15 8, q16, fq16 0, fq16 1, q17, fq17 0, fq17 1, q18, fq18 0, fq18 1, q19, fq19 0, fq19 1, q20, fq20 0, fq20 1, q21, fq21 0, fq21 1, q22, fq22 0, fq22 1, q23, fq23 0, fq23 1, q24, fq24 0, fq24 1]).getD j 0) ta dh_r1 3 (((((((((((((([] ++ sg_Tape) ++ sg_LawReader) ++ sg_Tale) ++ sg_Walks) ++ sg_Rivals) ++ sg_Numbers) ++ sg_Evening) ++ sg_Stove) ++ sg_Stove) ++ sg_Law) ++ sg_Law) ++ sg_Law) ++ sg_Law) ++ sg_Tale) := by
    have hq : dh_so (fun j => (h0 :: [q2, q3, q1, fq1 0, q4, fq4 0, fq4 1, fq4 2, fq4 3, fq4 4, fq4 5, fq4 6, fq4 7, q5, fq5 0, fq5 1, q6, fq6 0, fq6 1, fq6 2, fq6 3, fq6 4, q7, fq7 0, fq7 1, fq7 2, fq7 3, fq7 4, q8, fq8 0, fq8 1, fq8 2, fq8 3, fq8 4, fq8 5, fq8 6, fq8 7, fq8 8, fq8 9, fq8 10, fq8 11, fq8 12, fq8 13, fq8 14, fq8 15, fq8 16, fq8 17, fq8 18, fq8 19, fq8 20, fq8 21, fq8 22, fq8 23, fq8 24, fq8 25, fq8 26, fq8 27, fq8 28, fq8 29, fq8 30, fq8 31, fq8 32, fq8 33, fq8 34, fq8 35, fq8 36, fq8 37, fq8 38, fq8 39, fq8 40, fq8 41, fq8 42, fq8 43, fq8 44, q9, q10, fq10 0, q11, fq11 0, q12, fq12 0, fq12 1, fq12 2, fq12 3, fq12 4, fq12 5, fq12 6, fq12 7, fq12 8, q13, fq13 0, fq13 1, fq13 2, fq13 3, fq13 4, fq13 5, fq13 6, fq13 7, fq13 8, q14, fq14 0, fq14 1, fq14 2, fq14 3, fq14 4, fq14 5, fq14 6, fq14 7, fq14 8, q15, fq15 0, fq15 1, fq15 2, fq15 3, fq15 4, fq15 5, fq15 6, fq15 7, fq15 8, q16, fq16 0, fq16 1, q17, fq17 0, fq17 1, q18, fq18 0, fq18 1, q19, fq19 0, fq19 1, q20, fq20 0, fq20 1, q21, fq21 0, fq21 1, q22, fq22 0, fq22 1, q23, fq23 0, fq23 1, q24, fq24 0, fq24 1]).getD j 0) ta dh_r1 (3 + 117) sg_Tale = dh_sg ta sg_Tale dh_z (q16 :: (List.range 2).map fq16) := dh_so_sg (n := 3) rfl (fun j hj => by
      match j, hj with
      | 0, _ => rfl
      | 1, _ => rfl
      | 2, _ => rfl
      | k + 3, hj => exact absurd hj (by omega)) (hr1 _ (by omega)) (by decide +kernel)
    rw [eT_14, hT_13, ← hq]
    exact (dh_sgG_app (s1 := ((((((((((((([] ++ sg_Tape) ++ sg_LawReader) ++ sg_Tale) ++ sg_Walks) ++ sg_Rivals) ++ sg_Numbers) ++ sg_Evening) ++ sg_Stove) ++ sg_Stove) ++ sg_Law) ++ sg_Law) ++ sg_Law) ++ sg_Law)) (s2 := sg_Tale) (o := 3)).symm
  have hT_15 : T_15 = dh_so (fun j => (h0 :: [q2, q3, q1, fq1 0, q4, fq4 0, fq4 1, fq4 2, fq4 3, fq4 4, fq4 5, fq4 6, fq4 7, q5, fq5 0, fq5 1, q6, fq6 0, fq6 1, fq6 2, fq6 3, fq6 4, q7, fq7 0, fq7 1, fq7 2, fq7 3, fq7 4, q8, fq8 0, fq8 1, fq8 2, fq8 3, fq8 4, fq8 5, fq8 6, fq8 7, fq8 8, fq8 9, fq8 10, fq8 11, fq8 12, fq8 13, fq8 14, fq8 15, fq8 16, fq8 17, fq8 18, fq8 19, fq8 20, fq8 21, fq8 22, fq8 23, fq8 24, fq8 25, fq8 26, fq8 27, fq8 28, fq8 29, fq8 30, fq8 31, fq8 32, fq8 33, fq8 34, fq8 35, fq8 36, fq8 37, fq8 38, fq8 39, fq8 40, fq8 41, fq8 42, fq8 43, fq8 44, q9, q10, fq10 0, q11, fq11 0, q12, fq12 0, fq12 1, fq12 2, fq12 3, fq12 4, fq12 5, fq12 6, fq12 7, fq12 8, q13, fq13 0, fq13 1, fq13 2, fq13 3, fq13 4, fq13 5, fq13 6, fq13 7, fq13 8, q14, fq14 0, fq14 1, fq14 2, fq14 3, fq14 4, fq14 5, fq14 6, fq14 7, fq14 8, q15, fq15 0, fq15 1, fq15 2, fq15 3, fq15 4, fq15 5, fq15 6, fq15 7, fq15 8, q16, fq16 0, fq16 1, q17, fq17 0, fq17 1, q18, fq18 0, fq18 1, q19, fq19 0, fq19 1, q20, fq20 0, fq20 1, q21, fq21 0, fq21 1, q22, fq22 0, fq22 1, q23, fq23 0, fq23 1, q24, fq24 0, fq24 1]).getD j 0) ta dh_r1 3 ((((((((((((((([] ++ sg_Tape) ++ sg_LawReader) ++ sg_Tale) ++ sg_Walks) ++ sg_Rivals) ++ sg_Numbers) ++ sg_Evening) ++ sg_Stove) ++ sg_Stove) ++ sg_Law) ++ sg_Law) ++ sg_Law) ++ sg_Law) ++ sg_Tale) ++ sg_Tale) := by
    have hq : dh_so (fun j => (h0 :: [q2, q3, q1, fq1 0, q4, fq4 0, fq4 1, fq4 2, fq4 3, fq4 4, fq4 5, fq4 6, fq4 7, q5, fq5 0, fq5 1, q6, fq6 0, fq6 1, fq6 2, fq6 3, fq6 4, q7, fq7 0, fq7 1, fq7 2, fq7 3, fq7 4, q8, fq8 0, fq8 1, fq8 2, fq8 3, fq8 4, fq8 5, fq8 6, fq8 7, fq8 8, fq8 9, fq8 10, fq8 11, fq8 12, fq8 13, fq8 14, fq8 15, fq8 16, fq8 17, fq8 18, fq8 19, fq8 20, fq8 21, fq8 22, fq8 23, fq8 24, fq8 25, fq8 26, fq8 27, fq8 28, fq8 29, fq8 30, fq8 31, fq8 32, fq8 33, fq8 34, fq8 35, fq8 36, fq8 37, fq8 38, fq8 39, fq8 40, fq8 41, fq8 42, fq8 43, fq8 44, q9, q10, fq10 0, q11, fq11 0, q12, fq12 0, fq12 1, fq12 2, fq12 3, fq12 4, fq12 5, fq12 6, fq12 7, fq12 8, q13, fq13 0, fq13 1, fq13 2, fq13 3, fq13 4, fq13 5, fq13 6, fq13 7, fq13 8, q14, fq14 0, fq14 1, fq14 2, fq14 3, fq14 4, fq14 5, fq14 6, fq14 7, fq14 8, q15, fq15 0, fq15 1, fq15 2, fq15 3, fq15 4, fq15 5, fq15 6, fq15 7, fq15 8, q16, fq16 0, fq16 1, q17, fq17 0, fq17 1, q18, fq18 0, fq18 1, q19, fq19 0, fq19 1, q20, fq20 0, fq20 1, q21, fq21 0, fq21 1, q22, fq22 0, fq22 1, q23, fq23 0, fq23 1, q24, fq24 0, fq24 1]).getD j 0) ta dh_r1 (3 + 120) sg_Tale = dh_sg ta sg_Tale dh_z (q17 :: (List.range 2).map fq17) := dh_so_sg (n := 3) rfl (fun j hj => by
      match j, hj with
      | 0, _ => rfl
      | 1, _ => rfl
      | 2, _ => rfl
      | k + 3, hj => exact absurd hj (by omega)) (hr1 _ (by omega)) (by decide +kernel)
    rw [eT_15, hT_14, ← hq]
    exact (dh_sgG_app (s1 := (((((((((((((([] ++ sg_Tape) ++ sg_LawReader) ++ sg_Tale) ++ sg_Walks) ++ sg_Rivals) ++ sg_Numbers) ++ sg_Evening) ++ sg_Stove) ++ sg_Stove) ++ sg_Law) ++ sg_Law) ++ sg_Law) ++ sg_Law) ++ sg_Tale)) (s2 := sg_Tale) (o := 3)).symm
  have hT_16 : T_16 = dh_so (fun j => (h0 :: [q2, q3, q1, fq1 0, q4, fq4 0, fq4 1, fq4 2, fq4 3, fq4 4, fq4 5, fq4 6, fq4 7, q5, fq5 0, fq5 1, q6, fq6 0, fq6 1, fq6 2, fq6 3, fq6 4, q7, fq7 0, fq7 1, fq7 2, fq7 3, fq7 4, q8, fq8 0, fq8 1, fq8 2, fq8 3, fq8 4, fq8 5, fq8 6, fq8 7, fq8 8, fq8 9, fq8 10, fq8 11, fq8 12, fq8 13, fq8 14, fq8 15, fq8 16, fq8 17, fq8 18, fq8 19, fq8 20, fq8 21, fq8 22, fq8 23, fq8 24, fq8 25, fq8 26, fq8 27, fq8 28, fq8 29, fq8 30, fq8 31, fq8 32, fq8 33, fq8 34, fq8 35, fq8 36, fq8 37, fq8 38, fq8 39, fq8 40, fq8 41, fq8 42, fq8 43, fq8 44, q9, q10, fq10 0, q11, fq11 0, q12, fq12 0, fq12 1, fq12 2, fq12 3, fq12 4, fq12 5, fq12 6, fq12 7, fq12 8, q13, fq13 0, fq13 1, fq13 2, fq13 3, fq13 4, fq13 5, fq13 6, fq13 7, fq13 8, q14, fq14 0, fq14 1, fq14 2, fq14 3, fq14 4, fq14 5, fq14 6, fq14 7, fq14 8, q15, fq15 0, fq15 1, fq15 2, fq15 3, fq15 4, fq15 5, fq15 6, fq15 7, fq15 8, q16, fq16 0, fq16 1, q17, fq17 0, fq17 1, q18, fq18 0, fq18 1, q19, fq19 0, fq19 1, q20, fq20 0, fq20 1, q21, fq21 0, fq21 1, q22, fq22 0, fq22 1, q23, fq23 0, fq23 1, q24, fq24 0, fq24 1]).getD j 0) ta dh_r1 3 (((((((((((((((([] ++ sg_Tape) ++ sg_LawReader) ++ sg_Tale) ++ sg_Walks) ++ sg_Rivals) ++ sg_Numbers) ++ sg_Evening) ++ sg_Stove) ++ sg_Stove) ++ sg_Law) ++ sg_Law) ++ sg_Law) ++ sg_Law) ++ sg_Tale) ++ sg_Tale) ++ sg_Tale) := by
    have hq : dh_so (fun j => (h0 :: [q2, q3, q1, fq1 0, q4, fq4 0, fq4 1, fq4 2, fq4 3, fq4 4, fq4 5, fq4 6, fq4 7, q5, fq5 0, fq5 1, q6, fq6 0, fq6 1, fq6 2, fq6 3, fq6 4, q7, fq7 0, fq7 1, fq7 2, fq7 3, fq7 4, q8, fq8 0, fq8 1, fq8 2, fq8 3, fq8 4, fq8 5, fq8 6, fq8 7, fq8 8, fq8 9, fq8 10, fq8 11, fq8 12, fq8 13, fq8 14, fq8 15, fq8 16, fq8 17, fq8 18, fq8 19, fq8 20, fq8 21, fq8 22, fq8 23, fq8 24, fq8 25, fq8 26, fq8 27, fq8 28, fq8 29, fq8 30, fq8 31, fq8 32, fq8 33, fq8 34, fq8 35, fq8 36, fq8 37, fq8 38, fq8 39, fq8 40, fq8 41, fq8 42, fq8 43, fq8 44, q9, q10, fq10 0, q11, fq11 0, q12, fq12 0, fq12 1, fq12 2, fq12 3, fq12 4, fq12 5, fq12 6, fq12 7, fq12 8, q13, fq13 0, fq13 1, fq13 2, fq13 3, fq13 4, fq13 5, fq13 6, fq13 7, fq13 8, q14, fq14 0, fq14 1, fq14 2, fq14 3, fq14 4, fq14 5, fq14 6, fq14 7, fq14 8, q15, fq15 0, fq15 1, fq15 2, fq15 3, fq15 4, fq15 5, fq15 6, fq15 7, fq15 8, q16, fq16 0, fq16 1, q17, fq17 0, fq17 1, q18, fq18 0, fq18 1, q19, fq19 0, fq19 1, q20, fq20 0, fq20 1, q21, fq21 0, fq21 1, q22, fq22 0, fq22 1, q23, fq23 0, fq23 1, q24, fq24 0, fq24 1]).getD j 0) ta dh_r1 (3 + 123) sg_Tale = dh_sg ta sg_Tale dh_z (q18 :: (List.range 2).map fq18) := dh_so_sg (n := 3) rfl (fun j hj => by
      match j, hj with
      | 0, _ => rfl
      | 1, _ => rfl
      | 2, _ => rfl
      | k + 3, hj => exact absurd hj (by omega)) (hr1 _ (by omega)) (by decide +kernel)
    rw [eT_16, hT_15, ← hq]
    exact (dh_sgG_app (s1 := ((((((((((((((([] ++ sg_Tape) ++ sg_LawReader) ++ sg_Tale) ++ sg_Walks) ++ sg_Rivals) ++ sg_Numbers) ++ sg_Evening) ++ sg_Stove) ++ sg_Stove) ++ sg_Law) ++ sg_Law) ++ sg_Law) ++ sg_Law) ++ sg_Tale) ++ sg_Tale)) (s2 := sg_Tale) (o := 3)).symm
  have hT_17 : T_17 = dh_so (fun j => (h0 :: [q2, q3, q1, fq1 0, q4, fq4 0, fq4 1, fq4 2, fq4 3, fq4 4, fq4 5, fq4 6, fq4 7, q5, fq5 0, fq5 1, q6, fq6 0, fq6 1, fq6 2, fq6 3, fq6 4, q7, fq7 0, fq7 1, fq7 2, fq7 3, fq7 4, q8, fq8 0, fq8 1, fq8 2, fq8 3, fq8 4, fq8 5, fq8 6, fq8 7, fq8 8, fq8 9, fq8 10, fq8 11, fq8 12, fq8 13, fq8 14, fq8 15, fq8 16, fq8 17, fq8 18, fq8 19, fq8 20, fq8 21, fq8 22, fq8 23, fq8 24, fq8 25, fq8 26, fq8 27, fq8 28, fq8 29, fq8 30, fq8 31, fq8 32, fq8 33, fq8 34, fq8 35, fq8 36, fq8 37, fq8 38, fq8 39, fq8 40, fq8 41, fq8 42, fq8 43, fq8 44, q9, q10, fq10 0, q11, fq11 0, q12, fq12 0, fq12 1, fq12 2, fq12 3, fq12 4, fq12 5, fq12 6, fq12 7, fq12 8, q13, fq13 0, fq13 1, fq13 2, fq13 3, fq13 4, fq13 5, fq13 6, fq13 7, fq13 8, q14, fq14 0, fq14 1, fq14 2, fq14 3, fq14 4, fq14 5, fq14 6, fq14 7, fq14 8, q15, fq15 0, fq15 1, fq15 2, fq15 3, fq15 4, fq15 5, fq15 6, fq15 7, fq15 8, q16, fq16 0, fq16 1, q17, fq17 0, fq17 1, q18, fq18 0, fq18 1, q19, fq19 0, fq19 1, q20, fq20 0, fq20 1, q21, fq21 0, fq21 1, q22, fq22 0, fq22 1, q23, fq23 0, fq23 1, q24, fq24 0, fq24 1]).getD j 0) ta dh_r1 3 ((((((((((((((((([] ++ sg_Tape) ++ sg_LawReader) ++ sg_Tale) ++ sg_Walks) ++ sg_Rivals) ++ sg_Numbers) ++ sg_Evening) ++ sg_Stove) ++ sg_Stove) ++ sg_Law) ++ sg_Law) ++ sg_Law) ++ sg_Law) ++ sg_Tale) ++ sg_Tale) ++ sg_Tale) ++ sg_Tale) := by
    have hq : dh_so (fun j => (h0 :: [q2, q3, q1, fq1 0, q4, fq4 0, fq4 1, fq4 2, fq4 3, fq4 4, fq4 5, fq4 6, fq4 7, q5, fq5 0, fq5 1, q6, fq6 0, fq6 1, fq6 2, fq6 3, fq6 4, q7, fq7 0, fq7 1, fq7 2, fq7 3, fq7 4, q8, fq8 0, fq8 1, fq8 2, fq8 3, fq8 4, fq8 5, fq8 6, fq8 7, fq8 8, fq8 9, fq8 10, fq8 11, fq8 12, fq8 13, fq8 14, fq8 15, fq8 16, fq8 17, fq8 18, fq8 19, fq8 20, fq8 21, fq8 22, fq8 23, fq8 24, fq8 25, fq8 26, fq8 27, fq8 28, fq8 29, fq8 30, fq8 31, fq8 32, fq8 33, fq8 34, fq8 35, fq8 36, fq8 37, fq8 38, fq8 39, fq8 40, fq8 41, fq8 42, fq8 43, fq8 44, q9, q10, fq10 0, q11, fq11 0, q12, fq12 0, fq12 1, fq12 2, fq12 3, fq12 4, fq12 5, fq12 6, fq12 7, fq12 8, q13, fq13 0, fq13 1, fq13 2, fq13 3, fq13 4, fq13 5, fq13 6, fq13 7, fq13 8, q14, fq14 0, fq14 1, fq14 2, fq14 3, fq14 4, fq14 5, fq14 6, fq14 7, fq14 8, q15, fq15 0, fq15 1, fq15 2, fq15 3, fq15 4, fq15 5, fq15 6, fq15 7, fq15 8, q16, fq16 0, fq16 1, q17, fq17 0, fq17 1, q18, fq18 0, fq18 1, q19, fq19 0, fq19 1, q20, fq20 0, fq20 1, q21, fq21 0, fq21 1, q22, fq22 0, fq22 1, q23, fq23 0, fq23 1, q24, fq24 0, fq24 1]).getD j 0) ta dh_r1 (3 + 126) sg_Tale = dh_sg ta sg_Tale dh_z (q19 :: (List.range 2).map fq19) := dh_so_sg (n := 3) rfl (fun j hj => by
      match j, hj with
      | 0, _ => rfl
      | 1, _ => rfl
      | 2, _ => rfl
      | k + 3, hj => exact absurd hj (by omega)) (hr1 _ (by omega)) (by decide +kernel)
    rw [eT_17, hT_16, ← hq]
    exact (dh_sgG_app (s1 := (((((((((((((((([] ++ sg_Tape) ++ sg_LawReader) ++ sg_Tale) ++ sg_Walks) ++ sg_Rivals) ++ sg_Numbers) ++ sg_Evening) ++ sg_Stove) ++ sg_Stove) ++ sg_Law) ++ sg_Law) ++ sg_Law) ++ sg_Law) ++ sg_Tale) ++ sg_Tale) ++ sg_Tale)) (s2 := sg_Tale) (o := 3)).symm
  have hT_18 : T_18 = dh_so (fun j => (h0 :: [q2, q3, q1, fq1 0, q4, fq4 0, fq4 1, fq4 2, fq4 3, fq4 4, fq4 5, fq4 6, fq4 7, q5, fq5 0, fq5 1, q6, fq6 0, fq6 1, fq6 2, fq6 3, fq6 4, q7, fq7 0, fq7 1, fq7 2, fq7 3, fq7 4, q8, fq8 0, fq8 1, fq8 2, fq8 3, fq8 4, fq8 5, fq8 6, fq8 7, fq8 8, fq8 9, fq8 10, fq8 11, fq8 12, fq8 13, fq8 14, fq8 15, fq8 16, fq8 17, fq8 18, fq8 19, fq8 20, fq8 21, fq8 22, fq8 23, fq8 24, fq8 25, fq8 26, fq8 27, fq8 28, fq8 29, fq8 30, fq8 31, fq8 32, fq8 33, fq8 34, fq8 35, fq8 36, fq8 37, fq8 38, fq8 39, fq8 40, fq8 41, fq8 42, fq8 43, fq8 44, q9, q10, fq10 0, q11, fq11 0, q12, fq12 0, fq12 1, fq12 2, fq12 3, fq12 4, fq12 5, fq12 6, fq12 7, fq12 8, q13, fq13 0, fq13 1, fq13 2, fq13 3, fq13 4, fq13 5, fq13 6, fq13 7, fq13 8, q14, fq14 0, fq14 1, fq14 2, fq14 3, fq14 4, fq14 5, fq14 6, fq14 7, fq14 8, q15, fq15 0, fq15 1, fq15 2, fq15 3, fq15 4, fq15 5, fq15 6, fq15 7, fq15 8, q16, fq16 0, fq16 1, q17, fq17 0, fq17 1, q18, fq18 0, fq18 1, q19, fq19 0, fq19 1, q20, fq20 0, fq20 1, q21, fq21 0, fq21 1, q22, fq22 0, fq22 1, q23, fq23 0, fq23 1, q24, fq24 0, fq24 1]).getD j 0) ta dh_r1 3 (((((((((((((((((([] ++ sg_Tape) ++ sg_LawReader) ++ sg_Tale) ++ sg_Walks) ++ sg_Rivals) ++ sg_Numbers) ++ sg_Evening) ++ sg_Stove) ++ sg_Stove) ++ sg_Law) ++ sg_Law) ++ sg_Law) ++ sg_Law) ++ sg_Tale) ++ sg_Tale) ++ sg_Tale) ++ sg_Tale) ++ sg_Tale) := by
    have hq : dh_so (fun j => (h0 :: [q2, q3, q1, fq1 0, q4, fq4 0, fq4 1, fq4 2, fq4 3, fq4 4, fq4 5, fq4 6, fq4 7, q5, fq5 0, fq5 1, q6, fq6 0, fq6 1, fq6 2, fq6 3, fq6 4, q7, fq7 0, fq7 1, fq7 2, fq7 3, fq7 4, q8, fq8 0, fq8 1, fq8 2, fq8 3, fq8 4, fq8 5, fq8 6, fq8 7, fq8 8, fq8 9, fq8 10, fq8 11, fq8 12, fq8 13, fq8 14, fq8 15, fq8 16, fq8 17, fq8 18, fq8 19, fq8 20, fq8 21, fq8 22, fq8 23, fq8 24, fq8 25, fq8 26, fq8 27, fq8 28, fq8 29, fq8 30, fq8 31, fq8 32, fq8 33, fq8 34, fq8 35, fq8 36, fq8 37, fq8 38, fq8 39, fq8 40, fq8 41, fq8 42, fq8 43, fq8 44, q9, q10, fq10 0, q11, fq11 0, q12, fq12 0, fq12 1, fq12 2, fq12 3, fq12 4, fq12 5, fq12 6, fq12 7, fq12 8, q13, fq13 0, fq13 1, fq13 2, fq13 3, fq13 4, fq13 5, fq13 6, fq13 7, fq13 8, q14, fq14 0, fq14 1, fq14 2, fq14 3, fq14 4, fq14 5, fq14 6, fq14 7, fq14 8, q15, fq15 0, fq15 1, fq15 2, fq15 3, fq15 4, fq15 5, fq15 6, fq15 7, fq15 8, q16, fq16 0, fq16 1, q17, fq17 0, fq17 1, q18, fq18 0, fq18 1, q19, fq19 0, fq19 1, q20, fq20 0, fq20 1, q21, fq21 0, fq21 1, q22, fq22 0, fq22 1, q23, fq23 0, fq23 1, q24, fq24 0, fq24 1]).getD j 0) ta dh_r1 (3 + 129) sg_Tale = dh_sg ta sg_Tale dh_z (q20 :: (List.range 2).map fq20) := dh_so_sg (n := 3) rfl (fun j hj => by
      match j, hj with
      | 0, _ => rfl
      | 1, _ => rfl
      | 2, _ => rfl
      | k + 3, hj => exact absurd hj (by omega)) (hr1 _ (by omega)) (by decide +kernel)
    rw [eT_18, hT_17, ← hq]
    exact (dh_sgG_app (s1 := ((((((((((((((((([] ++ sg_Tape) ++ sg_LawReader) ++ sg_Tale) ++ sg_Walks) ++ sg_Rivals) ++ sg_Numbers) ++ sg_Evening) ++ sg_Stove) ++ sg_Stove) ++ sg_Law) ++ sg_Law) ++ sg_Law) ++ sg_Law) ++ sg_Tale) ++ sg_Tale) ++ sg_Tale) ++ sg_Tale)) (s2 := sg_Tale) (o := 3)).symm
  have hT_19 : T_19 = dh_so (fun j => (h0 :: [q2, q3, q1, fq1 0, q4, fq4 0, fq4 1, fq4 2, fq4 3, fq4 4, fq4 5, fq4 6, fq4 7, q5, fq5 0, fq5 1, q6, fq6 0, fq6 1, fq6 2, fq6 3, fq6 4, q7, fq7 0, fq7 1, fq7 2, fq7 3, fq7 4, q8, fq8 0, fq8 1, fq8 2, fq8 3, fq8 4, fq8 5, fq8 6, fq8 7, fq8 8, fq8 9, fq8 10, fq8 11, fq8 12, fq8 13, fq8 14, fq8 15, fq8 16, fq8 17, fq8 18, fq8 19, fq8 20, fq8 21, fq8 22, fq8 23, fq8 24, fq8 25, fq8 26, fq8 27, fq8 28, fq8 29, fq8 30, fq8 31, fq8 32, fq8 33, fq8 34, fq8 35, fq8 36, fq8 37, fq8 38, fq8 39, fq8 40, fq8 41, fq8 42, fq8 43, fq8 44, q9, q10, fq10 0, q11, fq11 0, q12, fq12 0, fq12 1, fq12 2, fq12 3, fq12 4, fq12 5, fq12 6, fq12 7, fq12 8, q13, fq13 0, fq13 1, fq13 2, fq13 3, fq13 4, fq13 5, fq13 6, fq13 7, fq13 8, q14, fq14 0, fq14 1, fq14 2, fq14 3, fq14 4, fq14 5, fq14 6, fq14 7, fq14 8, q15, fq15 0, fq15 1, fq15 2, fq15 3, fq15 4, fq15 5, fq15 6, fq15 7, fq15 8, q16, fq16 0, fq16 1, q17, fq17 0, fq17 1, q18, fq18 0, fq18 1, q19, fq19 0, fq19 1, q20, fq20 0, fq20 1, q21, fq21 0, fq21 1, q22, fq22 0, fq22 1, q23, fq23 0, fq23 1, q24, fq24 0, fq24 1]).getD j 0) ta dh_r1 3 ((((((((((((((((((([] ++ sg_Tape) ++ sg_LawReader) ++ sg_Tale) ++ sg_Walks) ++ sg_Rivals) ++ sg_Numbers) ++ sg_Evening) ++ sg_Stove) ++ sg_Stove) ++ sg_Law) ++ sg_Law) ++ sg_Law) ++ sg_Law) ++ sg_Tale) ++ sg_Tale) ++ sg_Tale) ++ sg_Tale) ++ sg_Tale) ++ sg_Tale) := by
    have hq : dh_so (fun j => (h0 :: [q2, q3, q1, fq1 0, q4, fq4 0, fq4 1, fq4 2, fq4 3, fq4 4, fq4 5, fq4 6, fq4 7, q5, fq5 0, fq5 1, q6, fq6 0, fq6 1, fq6 2, fq6 3, fq6 4, q7, fq7 0, fq7 1, fq7 2, fq7 3, fq7 4, q8, fq8 0, fq8 1, fq8 2, fq8 3, fq8 4, fq8 5, fq8 6, fq8 7, fq8 8, fq8 9, fq8 10, fq8 11, fq8 12, fq8 13, fq8 14, fq8 15, fq8 16, fq8 17, fq8 18, fq8 19, fq8 20, fq8 21, fq8 22, fq8 23, fq8 24, fq8 25, fq8 26, fq8 27, fq8 28, fq8 29, fq8 30, fq8 31, fq8 32, fq8 33, fq8 34, fq8 35, fq8 36, fq8 37, fq8 38, fq8 39, fq8 40, fq8 41, fq8 42, fq8 43, fq8 44, q9, q10, fq10 0, q11, fq11 0, q12, fq12 0, fq12 1, fq12 2, fq12 3, fq12 4, fq12 5, fq12 6, fq12 7, fq12 8, q13, fq13 0, fq13 1, fq13 2, fq13 3, fq13 4, fq13 5, fq13 6, fq13 7, fq13 8, q14, fq14 0, fq14 1, fq14 2, fq14 3, fq14 4, fq14 5, fq14 6, fq14 7, fq14 8, q15, fq15 0, fq15 1, fq15 2, fq15 3, fq15 4, fq15 5, fq15 6, fq15 7, fq15 8, q16, fq16 0, fq16 1, q17, fq17 0, fq17 1, q18, fq18 0, fq18 1, q19, fq19 0, fq19 1, q20, fq20 0, fq20 1, q21, fq21 0, fq21 1, q22, fq22 0, fq22 1, q23, fq23 0, fq23 1, q24, fq24 0, fq24 1]).getD j 0) ta dh_r1 (3 + 132) sg_Tale = dh_sg ta sg_Tale dh_z (q21 :: (List.range 2).map fq21) := dh_so_sg (n := 3) rfl (fun j hj => by
      match j, hj with
      | 0, _ => rfl
      | 1, _ => rfl
      | 2, _ => rfl
      | k + 3, hj => exact absurd hj (by omega)) (hr1 _ (by omega)) (by decide +kernel)
    rw [eT_19, hT_18, ← hq]
    exact (dh_sgG_app (s1 := (((((((((((((((((([] ++ sg_Tape) ++ sg_LawReader) ++ sg_Tale) ++ sg_Walks) ++ sg_Rivals) ++ sg_Numbers) ++ sg_Evening) ++ sg_Stove) ++ sg_Stove) ++ sg_Law) ++ sg_Law) ++ sg_Law) ++ sg_Law) ++ sg_Tale) ++ sg_Tale) ++ sg_Tale) ++ sg_Tale) ++ sg_Tale)) (s2 := sg_Tale) (o := 3)).symm
  have hT_20 : T_20 = dh_so (fun j => (h0 :: [q2, q3, q1, fq1 0, q4, fq4 0, fq4 1, fq4 2, fq4 3, fq4 4, fq4 5, fq4 6, fq4 7, q5, fq5 0, fq5 1, q6, fq6 0, fq6 1, fq6 2, fq6 3, fq6 4, q7, fq7 0, fq7 1, fq7 2, fq7 3, fq7 4, q8, fq8 0, fq8 1, fq8 2, fq8 3, fq8 4, fq8 5, fq8 6, fq8 7, fq8 8, fq8 9, fq8 10, fq8 11, fq8 12, fq8 13, fq8 14, fq8 15, fq8 16, fq8 17, fq8 18, fq8 19, fq8 20, fq8 21, fq8 22, fq8 23, fq8 24, fq8 25, fq8 26, fq8 27, fq8 28, fq8 29, fq8 30, fq8 31, fq8 32, fq8 33, fq8 34, fq8 35, fq8 36, fq8 37, fq8 38, fq8 39, fq8 40, fq8 41, fq8 42, fq8 43, fq8 44, q9, q10, fq10 0, q11, fq11 0, q12, fq12 0, fq12 1, fq12 2, fq12 3, fq12 4, fq12 5, fq12 6, fq12 7, fq12 8, q13, fq13 0, fq13 1, fq13 2, fq13 3, fq13 4, fq13 5, fq13 6, fq13 7, fq13 8, q14, fq14 0, fq14 1, fq14 2, fq14 3, fq14 4, fq14 5, fq14 6, fq14 7, fq14 8, q15, fq15 0, fq15 1, fq15 2, fq15 3, fq15 4, fq15 5, fq15 6, fq15 7, fq15 8, q16, fq16 0, fq16 1, q17, fq17 0, fq17 1, q18, fq18 0, fq18 1, q19, fq19 0, fq19 1, q20, fq20 0, fq20 1, q21, fq21 0, fq21 1, q22, fq22 0, fq22 1, q23, fq23 0, fq23 1, q24, fq24 0, fq24 1]).getD j 0) ta dh_r1 3 (((((((((((((((((((([] ++ sg_Tape) ++ sg_LawReader) ++ sg_Tale) ++ sg_Walks) ++ sg_Rivals) ++ sg_Numbers) ++ sg_Evening) ++ sg_Stove) ++ sg_Stove) ++ sg_Law) ++ sg_Law) ++ sg_Law) ++ sg_Law) ++ sg_Tale) ++ sg_Tale) ++ sg_Tale) ++ sg_Tale) ++ sg_Tale) ++ sg_Tale) ++ sg_Tale) := by
    have hq : dh_so (fun j => (h0 :: [q2, q3, q1, fq1 0, q4, fq4 0, fq4 1, fq4 2, fq4 3, fq4 4, fq4 5, fq4 6, fq4 7, q5, fq5 0, fq5 1, q6, fq6 0, fq6 1, fq6 2, fq6 3, fq6 4, q7, fq7 0, fq7 1, fq7 2, fq7 3, fq7 4, q8, fq8 0, fq8 1, fq8 2, fq8 3, fq8 4, fq8 5, fq8 6, fq8 7, fq8 8, fq8 9, fq8 10, fq8 11, fq8 12, fq8 13, fq8 14, fq8 15, fq8 16, fq8 17, fq8 18, fq8 19, fq8 20, fq8 21, fq8 22, fq8 23, fq8 24, fq8 25, fq8 26, fq8 27, fq8 28, fq8 29, fq8 30, fq8 31, fq8 32, fq8 33, fq8 34, fq8 35, fq8 36, fq8 37, fq8 38, fq8 39, fq8 40, fq8 41, fq8 42, fq8 43, fq8 44, q9, q10, fq10 0, q11, fq11 0, q12, fq12 0, fq12 1, fq12 2, fq12 3, fq12 4, fq12 5, fq12 6, fq12 7, fq12 8, q13, fq13 0, fq13 1, fq13 2, fq13 3, fq13 4, fq13 5, fq13 6, fq13 7, fq13 8, q14, fq14 0, fq14 1, fq14 2, fq14 3, fq14 4, fq14 5, fq14 6, fq14 7, fq14 8, q15, fq15 0, fq15 1, fq15 2, fq15 3, fq15 4, fq15 5, fq15 6, fq15 7, fq15 8, q16, fq16 0, fq16 1, q17, fq17 0, fq17 1, q18, fq18 0, fq18 1, q19, fq19 0, fq19 1, q20, fq20 0, fq20 1, q21, fq21 0, fq21 1, q22, fq22 0, fq22 1, q23, fq23 0, fq23 1, q24, fq24 0, fq24 1]).getD j 0) ta dh_r1 (3 + 135) sg_Tale = dh_sg ta sg_Tale dh_z (q22 :: (List.range 2).map fq22) := dh_so_sg (n := 3) rfl (fun j hj => by
      match j, hj with
      | 0, _ => rfl
      | 1, _ => rfl
      | 2, _ => rfl
      | k + 3, hj => exact absurd hj (by omega)) (hr1 _ (by omega)) (by decide +kernel)
    rw [eT_20, hT_19, ← hq]
    exact (dh_sgG_app (s1 := ((((((((((((((((((([] ++ sg_Tape) ++ sg_LawReader) ++ sg_Tale) ++ sg_Walks) ++ sg_Rivals) ++ sg_Numbers) ++ sg_Evening) ++ sg_Stove) ++ sg_Stove) ++ sg_Law) ++ sg_Law) ++ sg_Law) ++ sg_Law) ++ sg_Tale) ++ sg_Tale) ++ sg_Tale) ++ sg_Tale) ++ sg_Tale) ++ sg_Tale)) (s2 := sg_Tale) (o := 3)).symm
  have hT_21 : T_21 = dh_so (fun j => (h0 :: [q2, q3, q1, fq1 0, q4, fq4 0, fq4 1, fq4 2, fq4 3, fq4 4, fq4 5, fq4 6, fq4 7, q5, fq5 0, fq5 1, q6, fq6 0, fq6 1, fq6 2, fq6 3, fq6 4, q7, fq7 0, fq7 1, fq7 2, fq7 3, fq7 4, q8, fq8 0, fq8 1, fq8 2, fq8 3, fq8 4, fq8 5, fq8 6, fq8 7, fq8 8, fq8 9, fq8 10, fq8 11, fq8 12, fq8 13, fq8 14, fq8 15, fq8 16, fq8 17, fq8 18, fq8 19, fq8 20, fq8 21, fq8 22, fq8 23, fq8 24, fq8 25, fq8 26, fq8 27, fq8 28, fq8 29, fq8 30, fq8 31, fq8 32, fq8 33, fq8 34, fq8 35, fq8 36, fq8 37, fq8 38, fq8 39, fq8 40, fq8 41, fq8 42, fq8 43, fq8 44, q9, q10, fq10 0, q11, fq11 0, q12, fq12 0, fq12 1, fq12 2, fq12 3, fq12 4, fq12 5, fq12 6, fq12 7, fq12 8, q13, fq13 0, fq13 1, fq13 2, fq13 3, fq13 4, fq13 5, fq13 6, fq13 7, fq13 8, q14, fq14 0, fq14 1, fq14 2, fq14 3, fq14 4, fq14 5, fq14 6, fq14 7, fq14 8, q15, fq15 0, fq15 1, fq15 2, fq15 3, fq15 4, fq15 5, fq15 6, fq15 7, fq15 8, q16, fq16 0, fq16 1, q17, fq17 0, fq17 1, q18, fq18 0, fq18 1, q19, fq19 0, fq19 1, q20, fq20 0, fq20 1, q21, fq21 0, fq21 1, q22, fq22 0, fq22 1, q23, fq23 0, fq23 1, q24, fq24 0, fq24 1]).getD j 0) ta dh_r1 3 ((((((((((((((((((((([] ++ sg_Tape) ++ sg_LawReader) ++ sg_Tale) ++ sg_Walks) ++ sg_Rivals) ++ sg_Numbers) ++ sg_Evening) ++ sg_Stove) ++ sg_Stove) ++ sg_Law) ++ sg_Law) ++ sg_Law) ++ sg_Law) ++ sg_Tale) ++ sg_Tale) ++ sg_Tale) ++ sg_Tale) ++ sg_Tale) ++ sg_Tale) ++ sg_Tale) ++ sg_Tale) := by
    have hq : dh_so (fun j => (h0 :: [q2, q3, q1, fq1 0, q4, fq4 0, fq4 1, fq4 2, fq4 3, fq4 4, fq4 5, fq4 6, fq4 7, q5, fq5 0, fq5 1, q6, fq6 0, fq6 1, fq6 2, fq6 3, fq6 4, q7, fq7 0, fq7 1, fq7 2, fq7 3, fq7 4, q8, fq8 0, fq8 1, fq8 2, fq8 3, fq8 4, fq8 5, fq8 6, fq8 7, fq8 8, fq8 9, fq8 10, fq8 11, fq8 12, fq8 13, fq8 14, fq8 15, fq8 16, fq8 17, fq8 18, fq8 19, fq8 20, fq8 21, fq8 22, fq8 23, fq8 24, fq8 25, fq8 26, fq8 27, fq8 28, fq8 29, fq8 30, fq8 31, fq8 32, fq8 33, fq8 34, fq8 35, fq8 36, fq8 37, fq8 38, fq8 39, fq8 40, fq8 41, fq8 42, fq8 43, fq8 44, q9, q10, fq10 0, q11, fq11 0, q12, fq12 0, fq12 1, fq12 2, fq12 3, fq12 4, fq12 5, fq12 6, fq12 7, fq12 8, q13, fq13 0, fq13 1, fq13 2, fq13 3, fq13 4, fq13 5, fq13 6, fq13 7, fq13 8, q14, fq14 0, fq14 1, fq14 2, fq14 3, fq14 4, fq14 5, fq14 6, fq14 7, fq14 8, q15, fq15 0, fq15 1, fq15 2, fq15 3, fq15 4, fq15 5, fq15 6, fq15 7, fq15 8, q16, fq16 0, fq16 1, q17, fq17 0, fq17 1, q18, fq18 0, fq18 1, q19, fq19 0, fq19 1, q20, fq20 0, fq20 1, q21, fq21 0, fq21 1, q22, fq22 0, fq22 1, q23, fq23 0, fq23 1, q24, fq24 0, fq24 1]).getD j 0) ta dh_r1 (3 + 138) sg_Tale = dh_sg ta sg_Tale dh_z (q23 :: (List.range 2).map fq23) := dh_so_sg (n := 3) rfl (fun j hj => by
      match j, hj with
      | 0, _ => rfl
      | 1, _ => rfl
      | 2, _ => rfl
      | k + 3, hj => exact absurd hj (by omega)) (hr1 _ (by omega)) (by decide +kernel)
    rw [eT_21, hT_20, ← hq]
    exact (dh_sgG_app (s1 := (((((((((((((((((((([] ++ sg_Tape) ++ sg_LawReader) ++ sg_Tale) ++ sg_Walks) ++ sg_Rivals) ++ sg_Numbers) ++ sg_Evening) ++ sg_Stove) ++ sg_Stove) ++ sg_Law) ++ sg_Law) ++ sg_Law) ++ sg_Law) ++ sg_Tale) ++ sg_Tale) ++ sg_Tale) ++ sg_Tale) ++ sg_Tale) ++ sg_Tale) ++ sg_Tale)) (s2 := sg_Tale) (o := 3)).symm
  have hT_22 : T_22 = dh_so (fun j => (h0 :: [q2, q3, q1, fq1 0, q4, fq4 0, fq4 1, fq4 2, fq4 3, fq4 4, fq4 5, fq4 6, fq4 7, q5, fq5 0, fq5 1, q6, fq6 0, fq6 1, fq6 2, fq6 3, fq6 4, q7, fq7 0, fq7 1, fq7 2, fq7 3, fq7 4, q8, fq8 0, fq8 1, fq8 2, fq8 3, fq8 4, fq8 5, fq8 6, fq8 7, fq8 8, fq8 9, fq8 10, fq8 11, fq8 12, fq8 13, fq8 14, fq8 15, fq8 16, fq8 17, fq8 18, fq8 19, fq8 20, fq8 21, fq8 22, fq8 23, fq8 24, fq8 25, fq8 26, fq8 27, fq8 28, fq8 29, fq8 30, fq8 31, fq8 32, fq8 33, fq8 34, fq8 35, fq8 36, fq8 37, fq8 38, fq8 39, fq8 40, fq8 41, fq8 42, fq8 43, fq8 44, q9, q10, fq10 0, q11, fq11 0, q12, fq12 0, fq12 1, fq12 2, fq12 3, fq12 4, fq12 5, fq12 6, fq12 7, fq12 8, q13, fq13 0, fq13 1, fq13 2, fq13 3, fq13 4, fq13 5, fq13 6, fq13 7, fq13 8, q14, fq14 0, fq14 1, fq14 2, fq14 3, fq14 4, fq14 5, fq14 6, fq14 7, fq14 8, q15, fq15 0, fq15 1, fq15 2, fq15 3, fq15 4, fq15 5, fq15 6, fq15 7, fq15 8, q16, fq16 0, fq16 1, q17, fq17 0, fq17 1, q18, fq18 0, fq18 1, q19, fq19 0, fq19 1, q20, fq20 0, fq20 1, q21, fq21 0, fq21 1, q22, fq22 0, fq22 1, q23, fq23 0, fq23 1, q24, fq24 0, fq24 1]).getD j 0) ta dh_r1 3 (((((((((((((((((((((([] ++ sg_Tape) ++ sg_LawReader) ++ sg_Tale) ++ sg_Walks) ++ sg_Rivals) ++ sg_Numbers) ++ sg_Evening) ++ sg_Stove) ++ sg_Stove) ++ sg_Law) ++ sg_Law) ++ sg_Law) ++ sg_Law) ++ sg_Tale) ++ sg_Tale) ++ sg_Tale) ++ sg_Tale) ++ sg_Tale) ++ sg_Tale) ++ sg_Tale) ++ sg_Tale) ++ sg_Tale) := by
    have hq : dh_so (fun j => (h0 :: [q2, q3, q1, fq1 0, q4, fq4 0, fq4 1, fq4 2, fq4 3, fq4 4, fq4 5, fq4 6, fq4 7, q5, fq5 0, fq5 1, q6, fq6 0, fq6 1, fq6 2, fq6 3, fq6 4, q7, fq7 0, fq7 1, fq7 2, fq7 3, fq7 4, q8, fq8 0, fq8 1, fq8 2, fq8 3, fq8 4, fq8 5, fq8 6, fq8 7, fq8 8, fq8 9, fq8 10, fq8 11, fq8 12, fq8 13, fq8 14, fq8 15, fq8 16, fq8 17, fq8 18, fq8 19, fq8 20, fq8 21, fq8 22, fq8 23, fq8 24, fq8 25, fq8 26, fq8 27, fq8 28, fq8 29, fq8 30, fq8 31, fq8 32, fq8 33, fq8 34, fq8 35, fq8 36, fq8 37, fq8 38, fq8 39, fq8 40, fq8 41, fq8 42, fq8 43, fq8 44, q9, q10, fq10 0, q11, fq11 0, q12, fq12 0, fq12 1, fq12 2, fq12 3, fq12 4, fq12 5, fq12 6, fq12 7, fq12 8, q13, fq13 0, fq13 1, fq13 2, fq13 3, fq13 4, fq13 5, fq13 6, fq13 7, fq13 8, q14, fq14 0, fq14 1, fq14 2, fq14 3, fq14 4, fq14 5, fq14 6, fq14 7, fq14 8, q15, fq15 0, fq15 1, fq15 2, fq15 3, fq15 4, fq15 5, fq15 6, fq15 7, fq15 8, q16, fq16 0, fq16 1, q17, fq17 0, fq17 1, q18, fq18 0, fq18 1, q19, fq19 0, fq19 1, q20, fq20 0, fq20 1, q21, fq21 0, fq21 1, q22, fq22 0, fq22 1, q23, fq23 0, fq23 1, q24, fq24 0, fq24 1]).getD j 0) ta dh_r1 (3 + 141) sg_Tale = dh_sg ta sg_Tale dh_z (q24 :: (List.range 2).map fq24) := dh_so_sg (n := 3) rfl (fun j hj => by
      match j, hj with
      | 0, _ => rfl
      | 1, _ => rfl
      | 2, _ => rfl
      | k + 3, hj => exact absurd hj (by omega)) (hr1 _ (by omega)) (by decide +kernel)
    rw [eT_22, hT_21, ← hq]
    exact (dh_sgG_app (s1 := ((((((((((((((((((((([] ++ sg_Tape) ++ sg_LawReader) ++ sg_Tale) ++ sg_Walks) ++ sg_Rivals) ++ sg_Numbers) ++ sg_Evening) ++ sg_Stove) ++ sg_Stove) ++ sg_Law) ++ sg_Law) ++ sg_Law) ++ sg_Law) ++ sg_Tale) ++ sg_Tale) ++ sg_Tale) ++ sg_Tale) ++ sg_Tale) ++ sg_Tale) ++ sg_Tale) ++ sg_Tale)) (s2 := sg_Tale) (o := 3)).symm
  have eS : sg_Heap = [(0, 10, 0, 0), (5, 4, 79, 10), (6, 9, 118, 3)] ++ (((((((((((((((((((((([] ++ sg_Tape) ++ sg_LawReader) ++ sg_Tale) ++ sg_Walks) ++ sg_Rivals) ++ sg_Numbers) ++ sg_Evening) ++ sg_Stove) ++ sg_Stove) ++ sg_Law) ++ sg_Law) ++ sg_Law) ++ sg_Law) ++ sg_Tale) ++ sg_Tale) ++ sg_Tale) ++ sg_Tale) ++ sg_Tale) ++ sg_Tale) ++ sg_Tale) ++ sg_Tale) ++ sg_Tale) := by decide +kernel
  have eAll : dh_sg ta sg_Heap dh_r1 (h0 :: [q2, q3, q1, fq1 0, q4, fq4 0, fq4 1, fq4 2, fq4 3, fq4 4, fq4 5, fq4 6, fq4 7, q5, fq5 0, fq5 1, q6, fq6 0, fq6 1, fq6 2, fq6 3, fq6 4, q7, fq7 0, fq7 1, fq7 2, fq7 3, fq7 4, q8, fq8 0, fq8 1, fq8 2, fq8 3, fq8 4, fq8 5, fq8 6, fq8 7, fq8 8, fq8 9, fq8 10, fq8 11, fq8 12, fq8 13, fq8 14, fq8 15, fq8 16, fq8 17, fq8 18, fq8 19, fq8 20, fq8 21, fq8 22, fq8 23, fq8 24, fq8 25, fq8 26, fq8 27, fq8 28, fq8 29, fq8 30, fq8 31, fq8 32, fq8 33, fq8 34, fq8 35, fq8 36, fq8 37, fq8 38, fq8 39, fq8 40, fq8 41, fq8 42, fq8 43, fq8 44, q9, q10, fq10 0, q11, fq11 0, q12, fq12 0, fq12 1, fq12 2, fq12 3, fq12 4, fq12 5, fq12 6, fq12 7, fq12 8, q13, fq13 0, fq13 1, fq13 2, fq13 3, fq13 4, fq13 5, fq13 6, fq13 7, fq13 8, q14, fq14 0, fq14 1, fq14 2, fq14 3, fq14 4, fq14 5, fq14 6, fq14 7, fq14 8, q15, fq15 0, fq15 1, fq15 2, fq15 3, fq15 4, fq15 5, fq15 6, fq15 7, fq15 8, q16, fq16 0, fq16 1, q17, fq17 0, fq17 1, q18, fq18 0, fq18 1, q19, fq19 0, fq19 1, q20, fq20 0, fq20 1, q21, fq21 0, fq21 1, q22, fq22 0, fq22 1, q23, fq23 0, fq23 1, q24, fq24 0, fq24 1]) = ([(h0, .inr (10, [.ref q1, .ref q2, .ref q3, .ref q4, .ref q5, .ref q6, .ref q7, .ref q8, .ref q9, .ref q10, .ref q11, .int 0, .int 1, .int 1])), (q2, .inl (ta 5, 4, .inr (.inr (.inr (.inr (fun j => if j < 4 then some ((h0 :: [q2, q3, q1, fq1 0, q4, fq4 0, fq4 1, fq4 2, fq4 3, fq4 4, fq4 5, fq4 6, fq4 7, q5, fq5 0, fq5 1, q6, fq6 0, fq6 1, fq6 2, fq6 3, fq6 4, q7, fq7 0, fq7 1, fq7 2, fq7 3, fq7 4, q8, fq8 0, fq8 1, fq8 2, fq8 3, fq8 4, fq8 5, fq8 6, fq8 7, fq8 8, fq8 9, fq8 10, fq8 11, fq8 12, fq8 13, fq8 14, fq8 15, fq8 16, fq8 17, fq8 18, fq8 19, fq8 20, fq8 21, fq8 22, fq8 23, fq8 24, fq8 25, fq8 26, fq8 27, fq8 28, fq8 29, fq8 30, fq8 31, fq8 32, fq8 33, fq8 34, fq8 35, fq8 36, fq8 37, fq8 38, fq8 39, fq8 40, fq8 41, fq8 42, fq8 43, fq8 44, q9, q10, fq10 0, q11, fq11 0, q12, fq12 0, fq12 1, fq12 2, fq12 3, fq12 4, fq12 5, fq12 6, fq12 7, fq12 8, q13, fq13 0, fq13 1, fq13 2, fq13 3, fq13 4, fq13 5, fq13 6, fq13 7, fq13 8, q14, fq14 0, fq14 1, fq14 2, fq14 3, fq14 4, fq14 5, fq14 6, fq14 7, fq14 8, q15, fq15 0, fq15 1, fq15 2, fq15 3, fq15 4, fq15 5, fq15 6, fq15 7, fq15 8, q16, fq16 0, fq16 1, q17, fq17 0, fq17 1, q18, fq18 0, fq18 1, q19, fq19 0, fq19 1, q20, fq20 0, fq20 1, q21, fq21 0, fq21 1, q22, fq22 0, fq22 1, q23, fq23 0, fq23 1, q24, fq24 0, fq24 1]).getD (1 + 79 + j * 10) 0) else none)))))), (q3, .inl (ta 6, 9, .inr (.inr (.inr (.inr (fun j => if j < 9 then some ((h0 :: [q2, q3, q1, fq1 0, q4, fq4 0, fq4 1, fq4 2, fq4 3, fq4 4, fq4 5, fq4 6, fq4 7, q5, fq5 0, fq5 1, q6, fq6 0, fq6 1, fq6 2, fq6 3, fq6 4, q7, fq7 0, fq7 1, fq7 2, fq7 3, fq7 4, q8, fq8 0, fq8 1, fq8 2, fq8 3, fq8 4, fq8 5, fq8 6, fq8 7, fq8 8, fq8 9, fq8 10, fq8 11, fq8 12, fq8 13, fq8 14, fq8 15, fq8 16, fq8 17, fq8 18, fq8 19, fq8 20, fq8 21, fq8 22, fq8 23, fq8 24, fq8 25, fq8 26, fq8 27, fq8 28, fq8 29, fq8 30, fq8 31, fq8 32, fq8 33, fq8 34, fq8 35, fq8 36, fq8 37, fq8 38, fq8 39, fq8 40, fq8 41, fq8 42, fq8 43, fq8 44, q9, q10, fq10 0, q11, fq11 0, q12, fq12 0, fq12 1, fq12 2, fq12 3, fq12 4, fq12 5, fq12 6, fq12 7, fq12 8, q13, fq13 0, fq13 1, fq13 2, fq13 3, fq13 4, fq13 5, fq13 6, fq13 7, fq13 8, q14, fq14 0, fq14 1, fq14 2, fq14 3, fq14 4, fq14 5, fq14 6, fq14 7, fq14 8, q15, fq15 0, fq15 1, fq15 2, fq15 3, fq15 4, fq15 5, fq15 6, fq15 7, fq15 8, q16, fq16 0, fq16 1, q17, fq17 0, fq17 1, q18, fq18 0, fq18 1, q19, fq19 0, fq19 1, q20, fq20 0, fq20 1, q21, fq21 0, fq21 1, q22, fq22 0, fq22 1, q23, fq23 0, fq23 1, q24, fq24 0, fq24 1]).getD (2 + 118 + j * 3) 0) else none))))))] ++ T_22) := by
    rw [hT_22]
    show dh_so (fun j => (h0 :: [q2, q3, q1, fq1 0, q4, fq4 0, fq4 1, fq4 2, fq4 3, fq4 4, fq4 5, fq4 6, fq4 7, q5, fq5 0, fq5 1, q6, fq6 0, fq6 1, fq6 2, fq6 3, fq6 4, q7, fq7 0, fq7 1, fq7 2, fq7 3, fq7 4, q8, fq8 0, fq8 1, fq8 2, fq8 3, fq8 4, fq8 5, fq8 6, fq8 7, fq8 8, fq8 9, fq8 10, fq8 11, fq8 12, fq8 13, fq8 14, fq8 15, fq8 16, fq8 17, fq8 18, fq8 19, fq8 20, fq8 21, fq8 22, fq8 23, fq8 24, fq8 25, fq8 26, fq8 27, fq8 28, fq8 29, fq8 30, fq8 31, fq8 32, fq8 33, fq8 34, fq8 35, fq8 36, fq8 37, fq8 38, fq8 39, fq8 40, fq8 41, fq8 42, fq8 43, fq8 44, q9, q10, fq10 0, q11, fq11 0, q12, fq12 0, fq12 1, fq12 2, fq12 3, fq12 4, fq12 5, fq12 6, fq12 7, fq12 8, q13, fq13 0, fq13 1, fq13 2, fq13 3, fq13 4, fq13 5, fq13 6, fq13 7, fq13 8, q14, fq14 0, fq14 1, fq14 2, fq14 3, fq14 4, fq14 5, fq14 6, fq14 7, fq14 8, q15, fq15 0, fq15 1, fq15 2, fq15 3, fq15 4, fq15 5, fq15 6, fq15 7, fq15 8, q16, fq16 0, fq16 1, q17, fq17 0, fq17 1, q18, fq18 0, fq18 1, q19, fq19 0, fq19 1, q20, fq20 0, fq20 1, q21, fq21 0, fq21 1, q22, fq22 0, fq22 1, q23, fq23 0, fq23 1, q24, fq24 0, fq24 1]).getD j 0) ta dh_r1 0 sg_Heap = _
    rw [eS]
    refine (dh_sgG_app (s1 := [(0, 10, 0, 0), (5, 4, 79, 10), (6, 9, 118, 3)]) (o := 0)).trans ?_
    rfl
  have hP9 : va_P D vwCl (dh_sg ta sg_Heap dh_r1 (h0 :: [q2, q3, q1, fq1 0, q4, fq4 0, fq4 1, fq4 2, fq4 3, fq4 4, fq4 5, fq4 6, fq4 7, q5, fq5 0, fq5 1, q6, fq6 0, fq6 1, fq6 2, fq6 3, fq6 4, q7, fq7 0, fq7 1, fq7 2, fq7 3, fq7 4, q8, fq8 0, fq8 1, fq8 2, fq8 3, fq8 4, fq8 5, fq8 6, fq8 7, fq8 8, fq8 9, fq8 10, fq8 11, fq8 12, fq8 13, fq8 14, fq8 15, fq8 16, fq8 17, fq8 18, fq8 19, fq8 20, fq8 21, fq8 22, fq8 23, fq8 24, fq8 25, fq8 26, fq8 27, fq8 28, fq8 29, fq8 30, fq8 31, fq8 32, fq8 33, fq8 34, fq8 35, fq8 36, fq8 37, fq8 38, fq8 39, fq8 40, fq8 41, fq8 42, fq8 43, fq8 44, q9, q10, fq10 0, q11, fq11 0, q12, fq12 0, fq12 1, fq12 2, fq12 3, fq12 4, fq12 5, fq12 6, fq12 7, fq12 8, q13, fq13 0, fq13 1, fq13 2, fq13 3, fq13 4, fq13 5, fq13 6, fq13 7, fq13 8, q14, fq14 0, fq14 1, fq14 2, fq14 3, fq14 4, fq14 5, fq14 6, fq14 7, fq14 8, q15, fq15 0, fq15 1, fq15 2, fq15 3, fq15 4, fq15 5, fq15 6, fq15 7, fq15 8, q16, fq16 0, fq16 1, q17, fq17 0, fq17 1, q18, fq18 0, fq18 1, q19, fq19 0, fq19 1, q20, fq20 0, fq20 1, q21, fq21 0, fq21 1, q22, fq22 0, fq22 1, q23, fq23 0, fq23 1, q24, fq24 0, fq24 1])) H_463 := by
    rw [eAll]
    exact hP_468
  have hD9 : va_D A (dh_sg ta sg_Heap dh_r1 (h0 :: [q2, q3, q1, fq1 0, q4, fq4 0, fq4 1, fq4 2, fq4 3, fq4 4, fq4 5, fq4 6, fq4 7, q5, fq5 0, fq5 1, q6, fq6 0, fq6 1, fq6 2, fq6 3, fq6 4, q7, fq7 0, fq7 1, fq7 2, fq7 3, fq7 4, q8, fq8 0, fq8 1, fq8 2, fq8 3, fq8 4, fq8 5, fq8 6, fq8 7, fq8 8, fq8 9, fq8 10, fq8 11, fq8 12, fq8 13, fq8 14, fq8 15, fq8 16, fq8 17, fq8 18, fq8 19, fq8 20, fq8 21, fq8 22, fq8 23, fq8 24, fq8 25, fq8 26, fq8 27, fq8 28, fq8 29, fq8 30, fq8 31, fq8 32, fq8 33, fq8 34, fq8 35, fq8 36, fq8 37, fq8 38, fq8 39, fq8 40, fq8 41, fq8 42, fq8 43, fq8 44, q9, q10, fq10 0, q11, fq11 0, q12, fq12 0, fq12 1, fq12 2, fq12 3, fq12 4, fq12 5, fq12 6, fq12 7, fq12 8, q13, fq13 0, fq13 1, fq13 2, fq13 3, fq13 4, fq13 5, fq13 6, fq13 7, fq13 8, q14, fq14 0, fq14 1, fq14 2, fq14 3, fq14 4, fq14 5, fq14 6, fq14 7, fq14 8, q15, fq15 0, fq15 1, fq15 2, fq15 3, fq15 4, fq15 5, fq15 6, fq15 7, fq15 8, q16, fq16 0, fq16 1, q17, fq17 0, fq17 1, q18, fq18 0, fq18 1, q19, fq19 0, fq19 1, q20, fq20 0, fq20 1, q21, fq21 0, fq21 1, q22, fq22 0, fq22 1, q23, fq23 0, fq23 1, q24, fq24 0, fq24 1])) := by
    rw [eAll]
    exact hD_469
  exact W.vret hx hb hr (fun t ht hW => ⟨⟨[q2, q3, q1, fq1 0, q4, fq4 0, fq4 1, fq4 2, fq4 3, fq4 4, fq4 5, fq4 6, fq4 7, q5, fq5 0, fq5 1, q6, fq6 0, fq6 1, fq6 2, fq6 3, fq6 4, q7, fq7 0, fq7 1, fq7 2, fq7 3, fq7 4, q8, fq8 0, fq8 1, fq8 2, fq8 3, fq8 4, fq8 5, fq8 6, fq8 7, fq8 8, fq8 9, fq8 10, fq8 11, fq8 12, fq8 13, fq8 14, fq8 15, fq8 16, fq8 17, fq8 18, fq8 19, fq8 20, fq8 21, fq8 22, fq8 23, fq8 24, fq8 25, fq8 26, fq8 27, fq8 28, fq8 29, fq8 30, fq8 31, fq8 32, fq8 33, fq8 34, fq8 35, fq8 36, fq8 37, fq8 38, fq8 39, fq8 40, fq8 41, fq8 42, fq8 43, fq8 44, q9, q10, fq10 0, q11, fq11 0, q12, fq12 0, fq12 1, fq12 2, fq12 3, fq12 4, fq12 5, fq12 6, fq12 7, fq12 8, q13, fq13 0, fq13 1, fq13 2, fq13 3, fq13 4, fq13 5, fq13 6, fq13 7, fq13 8, q14, fq14 0, fq14 1, fq14 2, fq14 3, fq14 4, fq14 5, fq14 6, fq14 7, fq14 8, q15, fq15 0, fq15 1, fq15 2, fq15 3, fq15 4, fq15 5, fq15 6, fq15 7, fq15 8, q16, fq16 0, fq16 1, q17, fq17 0, fq17 1, q18, fq18 0, fq18 1, q19, fq19 0, fq19 1, q20, fq20 0, fq20 1, q21, fq21 0, fq21 1, q22, fq22 0, fq22 1, q23, fq23 0, fq23 1, q24, fq24 0, fq24 1], rfl, rfl, by rw [ht]; exact hP9, hD9⟩, hS_467.F ht⟩) hS_467.2.2 di_Heap_188
