def yi_Model : MethodName := ⟨"DoubleHeapModel", "<init>", "()V"⟩
set_option maxRecDepth 100000 in
theorem cwi_Model : Cond.code yi_Model prog_13_method_1_code 1 none ∈ dh_B := dh_B_at 1108 rfl rfl
theorem gwi_Model : GoodIn dh_B (Cond.code yi_Model prog_13_method_1_code 1 none :: dh_B) := fun w hw => (List.mem_cons.mp hw).elim (fun e => e ▸ dh_goodIn _ cwi_Model) (fun h => dh_goodIn _ h)
theorem di_Model_0 : decode prog_13_method_1_code 0 = .ok (.aload_n 0, 1) := by decide +kernel
theorem di_Model_1 : decode prog_13_method_1_code 1 = .ok (.invokespecial 1, 3) := by decide +kernel
theorem di_Model_4 : decode prog_13_method_1_code 4 = .ok (.aload_n 0, 1) := by decide +kernel
theorem di_Model_5 : decode prog_13_method_1_code 5 = .ok (.sipush 6724, 3) := by decide +kernel
theorem di_Model_8 : decode prog_13_method_1_code 8 = .ok (.newarray .long, 2) := by decide +kernel
theorem di_Model_10 : decode prog_13_method_1_code 10 = .ok (.putfield 7, 3) := by decide +kernel
theorem di_Model_13 : decode prog_13_method_1_code 13 = .ok (.aload_n 0, 1) := by decide +kernel
theorem di_Model_14 : decode prog_13_method_1_code 14 = .ok (.sipush 6724, 3) := by decide +kernel
theorem di_Model_17 : decode prog_13_method_1_code 17 = .ok (.newarray .long, 2) := by decide +kernel
theorem di_Model_19 : decode prog_13_method_1_code 19 = .ok (.putfield 13, 3) := by decide +kernel
theorem di_Model_22 : decode prog_13_method_1_code 22 = .ok (.aload_n 0, 1) := by decide +kernel
theorem di_Model_23 : decode prog_13_method_1_code 23 = .ok (.iconst 4, 1) := by decide +kernel
theorem di_Model_24 : decode prog_13_method_1_code 24 = .ok (.newarray .long, 2) := by decide +kernel
theorem di_Model_26 : decode prog_13_method_1_code 26 = .ok (.putfield 16, 3) := by decide +kernel
theorem di_Model_29 : decode prog_13_method_1_code 29 = .ok (.aload_n 0, 1) := by decide +kernel
theorem di_Model_30 : decode prog_13_method_1_code 30 = .ok (.iconst 4, 1) := by decide +kernel
theorem di_Model_31 : decode prog_13_method_1_code 31 = .ok (.newarray .int, 2) := by decide +kernel
theorem di_Model_33 : decode prog_13_method_1_code 33 = .ok (.putfield 19, 3) := by decide +kernel
theorem di_Model_36 : decode prog_13_method_1_code 36 = .ok (.aload_n 0, 1) := by decide +kernel
theorem di_Model_37 : decode prog_13_method_1_code 37 = .ok (.bipush 9, 2) := by decide +kernel
theorem di_Model_39 : decode prog_13_method_1_code 39 = .ok (.newarray .int, 2) := by decide +kernel
theorem di_Model_41 : decode prog_13_method_1_code 41 = .ok (.putfield 23, 3) := by decide +kernel
theorem di_Model_44 : decode prog_13_method_1_code 44 = .ok (.aload_n 0, 1) := by decide +kernel
theorem di_Model_45 : decode prog_13_method_1_code 45 = .ok (.bipush 9, 2) := by decide +kernel
theorem di_Model_47 : decode prog_13_method_1_code 47 = .ok (.newarray .int, 2) := by decide +kernel
theorem di_Model_49 : decode prog_13_method_1_code 49 = .ok (.putfield 26, 3) := by decide +kernel
theorem di_Model_52 : decode prog_13_method_1_code 52 = .ok (.aload_n 0, 1) := by decide +kernel
theorem di_Model_53 : decode prog_13_method_1_code 53 = .ok (.sipush 360, 3) := by decide +kernel
theorem di_Model_56 : decode prog_13_method_1_code 56 = .ok (.newarray .int, 2) := by decide +kernel
theorem di_Model_58 : decode prog_13_method_1_code 58 = .ok (.putfield 29, 3) := by decide +kernel
theorem di_Model_61 : decode prog_13_method_1_code 61 = .ok (.aload_n 0, 1) := by decide +kernel
theorem di_Model_62 : decode prog_13_method_1_code 62 = .ok (.sipush 260, 3) := by decide +kernel
theorem di_Model_65 : decode prog_13_method_1_code 65 = .ok (.newarray .byte, 2) := by decide +kernel
theorem di_Model_67 : decode prog_13_method_1_code 67 = .ok (.putfield 32, 3) := by decide +kernel
theorem di_Model_70 : decode prog_13_method_1_code 70 = .ok (.aload_n 0, 1) := by decide +kernel
theorem di_Model_71 : decode prog_13_method_1_code 71 = .ok (.sipush 260, 3) := by decide +kernel
theorem di_Model_74 : decode prog_13_method_1_code 74 = .ok (.newarray .int, 2) := by decide +kernel
theorem di_Model_76 : decode prog_13_method_1_code 76 = .ok (.putfield 36, 3) := by decide +kernel
theorem di_Model_79 : decode prog_13_method_1_code 79 = .ok (.aload_n 0, 1) := by decide +kernel
theorem di_Model_80 : decode prog_13_method_1_code 80 = .ok (.sipush 260, 3) := by decide +kernel
theorem di_Model_83 : decode prog_13_method_1_code 83 = .ok (.newarray .int, 2) := by decide +kernel
theorem di_Model_85 : decode prog_13_method_1_code 85 = .ok (.putfield 39, 3) := by decide +kernel
theorem di_Model_88 : decode prog_13_method_1_code 88 = .ok (.aload_n 0, 1) := by decide +kernel
theorem di_Model_89 : decode prog_13_method_1_code 89 = .ok (.bipush 8, 2) := by decide +kernel
theorem di_Model_91 : decode prog_13_method_1_code 91 = .ok (.newarray .int, 2) := by decide +kernel
theorem di_Model_93 : decode prog_13_method_1_code 93 = .ok (.putfield 42, 3) := by decide +kernel
theorem di_Model_96 : decode prog_13_method_1_code 96 = .ok (.aload_n 0, 1) := by decide +kernel
theorem di_Model_97 : decode prog_13_method_1_code 97 = .ok (.bipush 8, 2) := by decide +kernel
theorem di_Model_99 : decode prog_13_method_1_code 99 = .ok (.newarray .int, 2) := by decide +kernel
theorem di_Model_101 : decode prog_13_method_1_code 101 = .ok (.putfield 45, 3) := by decide +kernel
theorem di_Model_104 : decode prog_13_method_1_code 104 = .ok (.aload_n 0, 1) := by decide +kernel
theorem di_Model_105 : decode prog_13_method_1_code 105 = .ok (.bipush 8, 2) := by decide +kernel
theorem di_Model_107 : decode prog_13_method_1_code 107 = .ok (.newarray .int, 2) := by decide +kernel
theorem di_Model_109 : decode prog_13_method_1_code 109 = .ok (.putfield 48, 3) := by decide +kernel
theorem di_Model_112 : decode prog_13_method_1_code 112 = .ok (.aload_n 0, 1) := by decide +kernel
theorem di_Model_113 : decode prog_13_method_1_code 113 = .ok (.bipush 8, 2) := by decide +kernel
theorem di_Model_115 : decode prog_13_method_1_code 115 = .ok (.newarray .int, 2) := by decide +kernel
theorem di_Model_117 : decode prog_13_method_1_code 117 = .ok (.putfield 51, 3) := by decide +kernel
theorem di_Model_120 : decode prog_13_method_1_code 120 = .ok (.aload_n 0, 1) := by decide +kernel
theorem di_Model_121 : decode prog_13_method_1_code 121 = .ok (.sipush 260, 3) := by decide +kernel
theorem di_Model_124 : decode prog_13_method_1_code 124 = .ok (.newarray .int, 2) := by decide +kernel
theorem di_Model_126 : decode prog_13_method_1_code 126 = .ok (.putfield 54, 3) := by decide +kernel
theorem di_Model_129 : decode prog_13_method_1_code 129 = .ok (.aload_n 0, 1) := by decide +kernel
theorem di_Model_130 : decode prog_13_method_1_code 130 = .ok (.iconst 3, 1) := by decide +kernel
theorem di_Model_131 : decode prog_13_method_1_code 131 = .ok (.newarray .int, 2) := by decide +kernel
theorem di_Model_133 : decode prog_13_method_1_code 133 = .ok (.putfield 57, 3) := by decide +kernel
theorem di_Model_136 : decode prog_13_method_1_code 136 = .ok (.aload_n 0, 1) := by decide +kernel
theorem di_Model_137 : decode prog_13_method_1_code 137 = .ok (.bipush 40, 2) := by decide +kernel
theorem di_Model_139 : decode prog_13_method_1_code 139 = .ok (.newarray .int, 2) := by decide +kernel
theorem di_Model_141 : decode prog_13_method_1_code 141 = .ok (.putfield 60, 3) := by decide +kernel
theorem di_Model_144 : decode prog_13_method_1_code 144 = .ok (.aload_n 0, 1) := by decide +kernel
theorem di_Model_145 : decode prog_13_method_1_code 145 = .ok (.sipush 1681, 3) := by decide +kernel
theorem di_Model_148 : decode prog_13_method_1_code 148 = .ok (.newarray .int, 2) := by decide +kernel
theorem di_Model_150 : decode prog_13_method_1_code 150 = .ok (.putfield 63, 3) := by decide +kernel
theorem di_Model_153 : decode prog_13_method_1_code 153 = .ok (.aload_n 0, 1) := by decide +kernel
theorem di_Model_154 : decode prog_13_method_1_code 154 = .ok (.sipush 1681, 3) := by decide +kernel
theorem di_Model_157 : decode prog_13_method_1_code 157 = .ok (.newarray .int, 2) := by decide +kernel
theorem di_Model_159 : decode prog_13_method_1_code 159 = .ok (.putfield 66, 3) := by decide +kernel
theorem di_Model_162 : decode prog_13_method_1_code 162 = .ok (.aload_n 0, 1) := by decide +kernel
theorem di_Model_163 : decode prog_13_method_1_code 163 = .ok (.sipush 1681, 3) := by decide +kernel
theorem di_Model_166 : decode prog_13_method_1_code 166 = .ok (.newarray .int, 2) := by decide +kernel
theorem di_Model_168 : decode prog_13_method_1_code 168 = .ok (.putfield 69, 3) := by decide +kernel
theorem di_Model_171 : decode prog_13_method_1_code 171 = .ok (.aload_n 0, 1) := by decide +kernel
theorem di_Model_172 : decode prog_13_method_1_code 172 = .ok (.sipush 1681, 3) := by decide +kernel
theorem di_Model_175 : decode prog_13_method_1_code 175 = .ok (.newarray .long, 2) := by decide +kernel
theorem di_Model_177 : decode prog_13_method_1_code 177 = .ok (.putfield 72, 3) := by decide +kernel
theorem di_Model_180 : decode prog_13_method_1_code 180 = .ok (.aload_n 0, 1) := by decide +kernel
theorem di_Model_181 : decode prog_13_method_1_code 181 = .ok (.sipush 1681, 3) := by decide +kernel
theorem di_Model_184 : decode prog_13_method_1_code 184 = .ok (.newarray .long, 2) := by decide +kernel
theorem di_Model_186 : decode prog_13_method_1_code 186 = .ok (.putfield 75, 3) := by decide +kernel
theorem di_Model_189 : decode prog_13_method_1_code 189 = .ok (.aload_n 0, 1) := by decide +kernel
theorem di_Model_190 : decode prog_13_method_1_code 190 = .ok (.bipush 40, 2) := by decide +kernel
theorem di_Model_192 : decode prog_13_method_1_code 192 = .ok (.newarray .int, 2) := by decide +kernel
theorem di_Model_194 : decode prog_13_method_1_code 194 = .ok (.putfield 78, 3) := by decide +kernel
theorem di_Model_197 : decode prog_13_method_1_code 197 = .ok (.aload_n 0, 1) := by decide +kernel
theorem di_Model_198 : decode prog_13_method_1_code 198 = .ok (.sipush 8643, 3) := by decide +kernel
theorem di_Model_201 : decode prog_13_method_1_code 201 = .ok (.newarray .int, 2) := by decide +kernel
theorem di_Model_203 : decode prog_13_method_1_code 203 = .ok (.putfield 81, 3) := by decide +kernel
theorem di_Model_206 : decode prog_13_method_1_code 206 = .ok (.aload_n 0, 1) := by decide +kernel
theorem di_Model_207 : decode prog_13_method_1_code 207 = .ok (.sipush 18081, 3) := by decide +kernel
theorem di_Model_210 : decode prog_13_method_1_code 210 = .ok (.newarray .boolean, 2) := by decide +kernel
theorem di_Model_212 : decode prog_13_method_1_code 212 = .ok (.putfield 84, 3) := by decide +kernel
theorem di_Model_215 : decode prog_13_method_1_code 215 = .ok (.aload_n 0, 1) := by decide +kernel
theorem di_Model_216 : decode prog_13_method_1_code 216 = .ok (.ldc 88, 2) := by decide +kernel
theorem di_Model_218 : decode prog_13_method_1_code 218 = .ok (.newarray .boolean, 2) := by decide +kernel
theorem di_Model_220 : decode prog_13_method_1_code 220 = .ok (.putfield 89, 3) := by decide +kernel
theorem di_Model_223 : decode prog_13_method_1_code 223 = .ok (.aload_n 0, 1) := by decide +kernel
theorem di_Model_224 : decode prog_13_method_1_code 224 = .ok (.sipush 1681, 3) := by decide +kernel
theorem di_Model_227 : decode prog_13_method_1_code 227 = .ok (.newarray .boolean, 2) := by decide +kernel
theorem di_Model_229 : decode prog_13_method_1_code 229 = .ok (.putfield 92, 3) := by decide +kernel
theorem di_Model_232 : decode prog_13_method_1_code 232 = .ok (.aload_n 0, 1) := by decide +kernel
theorem di_Model_233 : decode prog_13_method_1_code 233 = .ok (.sipush 1681, 3) := by decide +kernel
theorem di_Model_236 : decode prog_13_method_1_code 236 = .ok (.newarray .boolean, 2) := by decide +kernel
theorem di_Model_238 : decode prog_13_method_1_code 238 = .ok (.putfield 95, 3) := by decide +kernel
theorem di_Model_241 : decode prog_13_method_1_code 241 = .ok (.aload_n 0, 1) := by decide +kernel
theorem di_Model_242 : decode prog_13_method_1_code 242 = .ok (.sipush 6724, 3) := by decide +kernel
theorem di_Model_245 : decode prog_13_method_1_code 245 = .ok (.newarray .boolean, 2) := by decide +kernel
theorem di_Model_247 : decode prog_13_method_1_code 247 = .ok (.putfield 98, 3) := by decide +kernel
theorem di_Model_250 : decode prog_13_method_1_code 250 = .ok (.aload_n 0, 1) := by decide +kernel
theorem di_Model_251 : decode prog_13_method_1_code 251 = .ok (.sipush 1681, 3) := by decide +kernel
theorem di_Model_254 : decode prog_13_method_1_code 254 = .ok (.newarray .int, 2) := by decide +kernel
theorem di_Model_256 : decode prog_13_method_1_code 256 = .ok (.putfield 101, 3) := by decide +kernel
theorem di_Model_259 : decode prog_13_method_1_code 259 = .ok (.aload_n 0, 1) := by decide +kernel
theorem di_Model_260 : decode prog_13_method_1_code 260 = .ok (.sipush 1681, 3) := by decide +kernel
theorem di_Model_263 : decode prog_13_method_1_code 263 = .ok (.newarray .int, 2) := by decide +kernel
theorem di_Model_265 : decode prog_13_method_1_code 265 = .ok (.putfield 104, 3) := by decide +kernel
theorem di_Model_268 : decode prog_13_method_1_code 268 = .ok (.aload_n 0, 1) := by decide +kernel
theorem di_Model_269 : decode prog_13_method_1_code 269 = .ok (.iconst 1, 1) := by decide +kernel
theorem di_Model_270 : decode prog_13_method_1_code 270 = .ok (.putfield 107, 3) := by decide +kernel
theorem di_Model_273 : decode prog_13_method_1_code 273 = .ok (.aload_n 0, 1) := by decide +kernel
theorem di_Model_274 : decode prog_13_method_1_code 274 = .ok (.bipush 40, 2) := by decide +kernel
theorem di_Model_276 : decode prog_13_method_1_code 276 = .ok (.newarray .int, 2) := by decide +kernel
theorem di_Model_278 : decode prog_13_method_1_code 278 = .ok (.putfield 111, 3) := by decide +kernel
theorem di_Model_281 : decode prog_13_method_1_code 281 = .ok (.aload_n 0, 1) := by decide +kernel
theorem di_Model_282 : decode prog_13_method_1_code 282 = .ok (.bipush 40, 2) := by decide +kernel
theorem di_Model_284 : decode prog_13_method_1_code 284 = .ok (.newarray .int, 2) := by decide +kernel
theorem di_Model_286 : decode prog_13_method_1_code 286 = .ok (.putfield 114, 3) := by decide +kernel
theorem di_Model_289 : decode prog_13_method_1_code 289 = .ok (.return_, 1) := by decide +kernel
set_option maxHeartbeats 8000000 in
set_option maxRecDepth 100000 in
theorem k_Model (l : Launch) (D : va_G) (ta : Nat → ClassId) (h0 sz : Nat) : Met l yi_Model (Cond.code yi_Model prog_13_method_1_code 1 none :: dh_B) ({ frames := 1, cells := 33, slots := 98947, locals := 40 }) (dh_Pi D ta [.ref h0] [(h0, .inr (11, [.null, .null, .null, .null, .null, .null, .null, .int 0, .int 0, .null, .int 0, .int 0, .int 0, .int 0, .int 0, .int 0, .int 0, .int 0, .int 0, .null, .null, .null, .null, .null, .null, .null, .null, .null, .null, .null, .null, .null, .null, .null, .null, .int 0, .null, .null, .null, .null, .null, .null, .null, .int 0, .int 0, .int 0, .int 0, .int 0, .int 0, .int 0, .null, .int 0, .int 0, .int 0, .int 0, .int 0, .null, .int 0]))] sz) (va_Qv (fun u : List Nat => u.length = 33) (fun u t => va_P D vwCl (dh_sg ta sg_Model dh_r2 (h0 :: u)) t.heap ∧ va_D (va_A [(h0, .inr (11, [.null, .null, .null, .null, .null, .null, .null, .int 0, .int 0, .null, .int 0, .int 0, .int 0, .int 0, .int 0, .int 0, .int 0, .int 0, .int 0, .null, .null, .null, .null, .null, .null, .null, .null, .null, .null, .null, .null, .null, .null, .null, .null, .int 0, .null, .null, .null, .null, .null, .null, .null, .int 0, .int 0, .int 0, .int 0, .int 0, .int 0, .int 0, .null, .int 0, .int 0, .int 0, .int 0, .int 0, .null, .int 0]))] sz) (dh_sg ta sg_Model dh_r2 (h0 :: u))) (va_A [(h0, .inr (11, [.null, .null, .null, .null, .null, .null, .null, .int 0, .int 0, .null, .int 0, .int 0, .int 0, .int 0, .int 0, .int 0, .int 0, .int 0, .int 0, .null, .null, .null, .null, .null, .null, .null, .null, .null, .null, .null, .null, .null, .null, .null, .null, .int 0, .null, .null, .null, .null, .null, .null, .null, .int 0, .int 0, .int 0, .int 0, .int 0, .int 0, .int 0, .null, .int 0, .int 0, .int 0, .int 0, .int 0, .null, .int 0]))] sz)) 33 98947 (va_A [(h0, .inr (11, [.null, .null, .null, .null, .null, .null, .null, .int 0, .int 0, .null, .int 0, .int 0, .int 0, .int 0, .int 0, .int 0, .int 0, .int 0, .int 0, .null, .null, .null, .null, .null, .null, .null, .null, .null, .null, .null, .null, .null, .null, .null, .null, .int 0, .null, .null, .null, .null, .null, .null, .null, .int 0, .int 0, .int 0, .int 0, .int 0, .int 0, .int 0, .null, .int 0, .int 0, .int 0, .int 0, .int 0, .null, .int 0]))] sz) := by
  refine Met.ofW (cc := prog_13_method_1_code) (maxL := 1) (ret := none) (by decide) rfl ?_
  intro p e s m args below meth c s₁ B hml hv
  obtain ⟨rfl, hsz, hP, hK, hD0, hN, hO⟩ := hv
  have hx := B.exec
  have hb := B.bytes
  have hr := B.returns
  have hts0 := atoms_spec (ws := Cond.code yi_Model prog_13_method_1_code 1 none :: dh_B) B.pre
  have hts : ∀ w ∈ dh_B, w.before #[Value.ref h0] s = true := fun w hw => hts0 w (List.mem_cons_of_mem _ hw)
  have hown : s.vm.findClass RX11 = some m.cls := findClass_of_methodNamed B.named
  have hlocks := B.notSynchronized
  have hin : meth.name = "<init>" := (name_of_methodNamed B.named B.method).1
  subst hsz
  have hD := hD0.self (sz := s.heap.size)
  generalize hAe : va_A [(h0, .inr (11, [.null, .null, .null, .null, .null, .null, .null, .int 0, .int 0, .null, .int 0, .int 0, .int 0, .int 0, .int 0, .int 0, .int 0, .int 0, .int 0, .null, .null, .null, .null, .null, .null, .null, .null, .null, .null, .null, .null, .null, .null, .null, .null, .int 0, .null, .null, .null, .null, .null, .null, .null, .int 0, .int 0, .int 0, .int 0, .int 0, .int 0, .int 0, .null, .int 0, .int 0, .int 0, .int 0, .int 0, .null, .int 0]))] s.heap.size = A at hD ⊢
  have hA : ∀ q : Nat, s.heap.size ≤ q → A q := fun q h => by rw [← hAe]; exact Or.inr h
  have hS : va_S A s.heap s.heap [] := va_S.rf
  have hl := lv_entry ([.ref h0]) (n := 1) (Nat.le_of_ble_eq_true rfl)
  rw [lg_entry_eq]
  generalize (lg_sl ([.ref h0]) ++ List.replicate (1 - (lg_sl ([.ref h0])).length) Slot.unset).toArray = ls at hl ⊢
  have hl : lv_has ls 1 [(0, .ref h0)] := hl
  obtain ⟨T_0, eT_0⟩ : ∃ z : va_W, z = [] := ⟨_, rfl⟩
  have hPs : va_P D vwCl ([(h0, .inr (11, [.null, .null, .null, .null, .null, .null, .null, .int 0, .int 0, .null, .int 0, .int 0, .int 0, .int 0, .int 0, .int 0, .int 0, .int 0, .int 0, .null, .null, .null, .null, .null, .null, .null, .null, .null, .null, .null, .null, .null, .null, .null, .null, .int 0, .null, .null, .null, .null, .null, .null, .null, .int 0, .int 0, .int 0, .int 0, .int 0, .int 0, .int 0, .null, .int 0, .int 0, .int 0, .int 0, .int 0, .null, .int 0]))] ++ T_0) s.heap := by rw [eT_0]; exact hP
  have hDs : va_D A ([(h0, .inr (11, [.null, .null, .null, .null, .null, .null, .null, .int 0, .int 0, .null, .int 0, .int 0, .int 0, .int 0, .int 0, .int 0, .int 0, .int 0, .int 0, .null, .null, .null, .null, .null, .null, .null, .null, .null, .null, .null, .null, .null, .null, .null, .null, .int 0, .null, .null, .null, .null, .null, .null, .null, .int 0, .int 0, .int 0, .int 0, .int 0, .int 0, .int 0, .null, .int 0, .int 0, .int 0, .int 0, .int 0, .null, .int 0]))] ++ T_0) := by rw [eT_0]; exact hD
  clear hP hD
  have hP := hPs
  have hD := hDs
  clear hPs hDs
  refine lv_aload_n hx hb di_Model_0 rfl (lv_at hl 0 rfl) ?_
  refine W.objInit hx hb hown (hts (.methodLink RX11 1 Lib.objectInit) (dh_has_in (i := 1109) (by decide +kernel))) (hts _ dh_w_oi) (hts _ dh_w_oc) rfl (by rw [hml]; exact hl.1) rfl di_Model_1 (Nat.le_of_ble_eq_true rfl) (Nat.le_of_ble_eq_true rfl) ?_
  refine W.eq (g2 := F0 m 4 ls []) rfl ?_
  refine lv_aload_n hx hb di_Model_4 rfl (lv_at hl 0 rfl) ?_
  refine lv_sipush (v := 6724) hx hb di_Model_5 (by decide) ?_
  refine va_newa (atype := .long) (a0 := (6724, .inr (.inl (fun _ => 0)))) hx hb (hts _ dh_w_aJ) rfl hK hP hD hS hA (fun _ => rfl) (by decide) (by decide) (by decide) (Nat.le_of_ble_eq_true rfl) (Nat.le_of_ble_eq_true rfl) di_Model_8 (fun q1 cA H_1 hK1 hP_2 hD_3 hS_4 => ?_)
  clear hP hD hS
  obtain rfl := dh_ta2 hK1
  clear hK1
  have hPj : va_P D vwCl ([(h0, .inr (11, [.null, .null, .null, .null, .null, .null, .null, .int 0, .int 0, .null, .int 0, .int 0, .int 0, .int 0, .int 0, .int 0, .int 0, .int 0, .int 0, .null, .null, .null, .null, .null, .null, .null, .null, .null, .null, .null, .null, .null, .null, .null, .null, .int 0, .null, .null, .null, .null, .null, .null, .null, .int 0, .int 0, .int 0, .int 0, .int 0, .int 0, .int 0, .null, .int 0, .int 0, .int 0, .int 0, .int 0, .null, .int 0]))] ++ (T_0 ++ [(q1, .inl (ta 2, (6724, .inr (.inl (fun _ => 0)))))])) H_1 := by rw [← List.append_assoc]; exact hP_2
  have hDj : va_D A ([(h0, .inr (11, [.null, .null, .null, .null, .null, .null, .null, .int 0, .int 0, .null, .int 0, .int 0, .int 0, .int 0, .int 0, .int 0, .int 0, .int 0, .int 0, .null, .null, .null, .null, .null, .null, .null, .null, .null, .null, .null, .null, .null, .null, .null, .null, .int 0, .null, .null, .null, .null, .null, .null, .null, .int 0, .int 0, .int 0, .int 0, .int 0, .int 0, .int 0, .null, .int 0, .int 0, .int 0, .int 0, .int 0, .null, .int 0]))] ++ (T_0 ++ [(q1, .inl (ta 2, (6724, .inr (.inl (fun _ => 0)))))])) := by rw [← List.append_assoc]; exact hD_3
  clear hP_2 hD_3
  obtain ⟨T_1, eT_1⟩ : ∃ z, z = T_0 ++ [(q1, .inl (ta 2, (6724, .inr (.inl (fun _ => 0)))))] := ⟨_, rfl⟩
  rw [← eT_1] at hPj hDj
  have hP_5 := hPj
  have hD_6 := hDj
  clear hPj hDj
  refine W.widen (k := 1) (n := 6724) (Nat.le_of_ble_eq_true rfl) (Nat.le_of_ble_eq_true rfl) ?_
  refine va_putF (D := D) (ci := 11) (v := .ref q1) (ty := .array .long) (C := RX11) (T := TX11) (N := 58) hx hb hts dh_u11 tyX11 tyX11_ok nmX11 hown hK hP_5 hD_6 hS_4 0 rfl rfl 0 (by decide) (hts (.fieldLink RX11 7 RX11 "takeSet" "[J") (dh_has_in (i := 1111) (by decide +kernel))) (fun _ h9 => h9) rfl hin rfl (by decide +kernel) rfl rfl (Nat.le_of_ble_eq_true rfl) di_Model_10 (fun H_7 locs_8 hP_9 hD_10 hS_11 => ?_)
  clear hP_5 hD_6 hS_4
  have hP_12 : va_P D vwCl ([(h0, .inr (11, [.ref q1, .null, .null, .null, .null, .null, .null, .int 0, .int 0, .null, .int 0, .int 0, .int 0, .int 0, .int 0, .int 0, .int 0, .int 0, .int 0, .null, .null, .null, .null, .null, .null, .null, .null, .null, .null, .null, .null, .null, .null, .null, .null, .int 0, .null, .null, .null, .null, .null, .null, .null, .int 0, .int 0, .int 0, .int 0, .int 0, .int 0, .int 0, .null, .int 0, .int 0, .int 0, .int 0, .int 0, .null, .int 0]))] ++ T_1) H_7 := hP_9
  clear hP_9
  have hD_13 : va_D A ([(h0, .inr (11, [.ref q1, .null, .null, .null, .null, .null, .null, .int 0, .int 0, .null, .int 0, .int 0, .int 0, .int 0, .int 0, .int 0, .int 0, .int 0, .int 0, .null, .null, .null, .null, .null, .null, .null, .null, .null, .null, .null, .null, .null, .null, .null, .null, .int 0, .null, .null, .null, .null, .null, .null, .null, .int 0, .int 0, .int 0, .int 0, .int 0, .int 0, .int 0, .null, .int 0, .int 0, .int 0, .int 0, .int 0, .null, .int 0]))] ++ T_1) := hD_10
  clear hD_10
  refine lv_aload_n hx hb di_Model_13 rfl (lv_at hl 0 rfl) ?_
  refine lv_sipush (v := 6724) hx hb di_Model_14 (by decide) ?_
  refine va_newa (atype := .long) (a0 := (6724, .inr (.inl (fun _ => 0)))) hx hb (hts _ dh_w_aJ) rfl hK hP_12 hD_13 hS_11 hA (fun _ => rfl) (by decide) (by decide) (by decide) (Nat.le_of_ble_eq_true rfl) (Nat.le_of_ble_eq_true rfl) di_Model_17 (fun q2 cA H_14 hK1 hP_15 hD_16 hS_17 => ?_)
  clear hP_12 hD_13 hS_11
  obtain rfl := dh_ta2 hK1
  clear hK1
  have hPj : va_P D vwCl ([(h0, .inr (11, [.ref q1, .null, .null, .null, .null, .null, .null, .int 0, .int 0, .null, .int 0, .int 0, .int 0, .int 0, .int 0, .int 0, .int 0, .int 0, .int 0, .null, .null, .null, .null, .null, .null, .null, .null, .null, .null, .null, .null, .null, .null, .null, .null, .int 0, .null, .null, .null, .null, .null, .null, .null, .int 0, .int 0, .int 0, .int 0, .int 0, .int 0, .int 0, .null, .int 0, .int 0, .int 0, .int 0, .int 0, .null, .int 0]))] ++ (T_1 ++ [(q2, .inl (ta 2, (6724, .inr (.inl (fun _ => 0)))))])) H_14 := by rw [← List.append_assoc]; exact hP_15
  have hDj : va_D A ([(h0, .inr (11, [.ref q1, .null, .null, .null, .null, .null, .null, .int 0, .int 0, .null, .int 0, .int 0, .int 0, .int 0, .int 0, .int 0, .int 0, .int 0, .int 0, .null, .null, .null, .null, .null, .null, .null, .null, .null, .null, .null, .null, .null, .null, .null, .null, .int 0, .null, .null, .null, .null, .null, .null, .null, .int 0, .int 0, .int 0, .int 0, .int 0, .int 0, .int 0, .null, .int 0, .int 0, .int 0, .int 0, .int 0, .null, .int 0]))] ++ (T_1 ++ [(q2, .inl (ta 2, (6724, .inr (.inl (fun _ => 0)))))])) := by rw [← List.append_assoc]; exact hD_16
  clear hP_15 hD_16
  obtain ⟨T_2, eT_2⟩ : ∃ z, z = T_1 ++ [(q2, .inl (ta 2, (6724, .inr (.inl (fun _ => 0)))))] := ⟨_, rfl⟩
  rw [← eT_2] at hPj hDj
  have hP_18 := hPj
  have hD_19 := hDj
  clear hPj hDj
  refine W.widen (k := 2) (n := 13448) (Nat.le_of_ble_eq_true rfl) (Nat.le_of_ble_eq_true rfl) ?_
  refine va_putF (D := D) (ci := 11) (v := .ref q2) (ty := .array .long) (C := RX11) (T := TX11) (N := 58) hx hb hts dh_u11 tyX11 tyX11_ok nmX11 hown hK hP_18 hD_19 hS_17 0 rfl rfl 1 (by decide) (hts (.fieldLink RX11 13 RX11 "goodSet" "[J") (dh_has_in (i := 1112) (by decide +kernel))) (fun _ h9 => h9) rfl hin rfl (by decide +kernel) rfl rfl (Nat.le_of_ble_eq_true rfl) di_Model_19 (fun H_20 locs_21 hP_22 hD_23 hS_24 => ?_)
  clear hP_18 hD_19 hS_17
  have hP_25 : va_P D vwCl ([(h0, .inr (11, [.ref q1, .ref q2, .null, .null, .null, .null, .null, .int 0, .int 0, .null, .int 0, .int 0, .int 0, .int 0, .int 0, .int 0, .int 0, .int 0, .int 0, .null, .null, .null, .null, .null, .null, .null, .null, .null, .null, .null, .null, .null, .null, .null, .null, .int 0, .null, .null, .null, .null, .null, .null, .null, .int 0, .int 0, .int 0, .int 0, .int 0, .int 0, .int 0, .null, .int 0, .int 0, .int 0, .int 0, .int 0, .null, .int 0]))] ++ T_2) H_20 := hP_22
  clear hP_22
  have hD_26 : va_D A ([(h0, .inr (11, [.ref q1, .ref q2, .null, .null, .null, .null, .null, .int 0, .int 0, .null, .int 0, .int 0, .int 0, .int 0, .int 0, .int 0, .int 0, .int 0, .int 0, .null, .null, .null, .null, .null, .null, .null, .null, .null, .null, .null, .null, .null, .null, .null, .null, .int 0, .null, .null, .null, .null, .null, .null, .null, .int 0, .int 0, .int 0, .int 0, .int 0, .int 0, .int 0, .null, .int 0, .int 0, .int 0, .int 0, .int 0, .null, .int 0]))] ++ T_2) := hD_23
  clear hD_23
  refine lv_aload_n hx hb di_Model_22 rfl (lv_at hl 0 rfl) ?_
  refine lv_iconst (v := 4) hx hb di_Model_23 (by decide) ?_
  refine va_newa (atype := .long) (a0 := (4, .inr (.inl (fun _ => 0)))) hx hb (hts _ dh_w_aJ) rfl hK hP_25 hD_26 hS_24 hA (fun _ => rfl) (by decide) (by decide) (by decide) (Nat.le_of_ble_eq_true rfl) (Nat.le_of_ble_eq_true rfl) di_Model_24 (fun q3 cA H_27 hK1 hP_28 hD_29 hS_30 => ?_)
  clear hP_25 hD_26 hS_24
  obtain rfl := dh_ta2 hK1
  clear hK1
  have hPj : va_P D vwCl ([(h0, .inr (11, [.ref q1, .ref q2, .null, .null, .null, .null, .null, .int 0, .int 0, .null, .int 0, .int 0, .int 0, .int 0, .int 0, .int 0, .int 0, .int 0, .int 0, .null, .null, .null, .null, .null, .null, .null, .null, .null, .null, .null, .null, .null, .null, .null, .null, .int 0, .null, .null, .null, .null, .null, .null, .null, .int 0, .int 0, .int 0, .int 0, .int 0, .int 0, .int 0, .null, .int 0, .int 0, .int 0, .int 0, .int 0, .null, .int 0]))] ++ (T_2 ++ [(q3, .inl (ta 2, (4, .inr (.inl (fun _ => 0)))))])) H_27 := by rw [← List.append_assoc]; exact hP_28
  have hDj : va_D A ([(h0, .inr (11, [.ref q1, .ref q2, .null, .null, .null, .null, .null, .int 0, .int 0, .null, .int 0, .int 0, .int 0, .int 0, .int 0, .int 0, .int 0, .int 0, .int 0, .null, .null, .null, .null, .null, .null, .null, .null, .null, .null, .null, .null, .null, .null, .null, .null, .int 0, .null, .null, .null, .null, .null, .null, .null, .int 0, .int 0, .int 0, .int 0, .int 0, .int 0, .int 0, .null, .int 0, .int 0, .int 0, .int 0, .int 0, .null, .int 0]))] ++ (T_2 ++ [(q3, .inl (ta 2, (4, .inr (.inl (fun _ => 0)))))])) := by rw [← List.append_assoc]; exact hD_29
  clear hP_28 hD_29
  obtain ⟨T_3, eT_3⟩ : ∃ z, z = T_2 ++ [(q3, .inl (ta 2, (4, .inr (.inl (fun _ => 0)))))] := ⟨_, rfl⟩
  rw [← eT_3] at hPj hDj
  have hP_31 := hPj
  have hD_32 := hDj
  clear hPj hDj
  refine W.widen (k := 3) (n := 13452) (Nat.le_of_ble_eq_true rfl) (Nat.le_of_ble_eq_true rfl) ?_
  refine va_putF (D := D) (ci := 11) (v := .ref q3) (ty := .array .long) (C := RX11) (T := TX11) (N := 58) hx hb hts dh_u11 tyX11 tyX11_ok nmX11 hown hK hP_31 hD_32 hS_30 0 rfl rfl 2 (by decide) (hts (.fieldLink RX11 16 RX11 "lostSet" "[J") (dh_has_in (i := 1113) (by decide +kernel))) (fun _ h9 => h9) rfl hin rfl (by decide +kernel) rfl rfl (Nat.le_of_ble_eq_true rfl) di_Model_26 (fun H_33 locs_34 hP_35 hD_36 hS_37 => ?_)
  clear hP_31 hD_32 hS_30
  have hP_38 : va_P D vwCl ([(h0, .inr (11, [.ref q1, .ref q2, .ref q3, .null, .null, .null, .null, .int 0, .int 0, .null, .int 0, .int 0, .int 0, .int 0, .int 0, .int 0, .int 0, .int 0, .int 0, .null, .null, .null, .null, .null, .null, .null, .null, .null, .null, .null, .null, .null, .null, .null, .null, .int 0, .null, .null, .null, .null, .null, .null, .null, .int 0, .int 0, .int 0, .int 0, .int 0, .int 0, .int 0, .null, .int 0, .int 0, .int 0, .int 0, .int 0, .null, .int 0]))] ++ T_3) H_33 := hP_35
  clear hP_35
  have hD_39 : va_D A ([(h0, .inr (11, [.ref q1, .ref q2, .ref q3, .null, .null, .null, .null, .int 0, .int 0, .null, .int 0, .int 0, .int 0, .int 0, .int 0, .int 0, .int 0, .int 0, .int 0, .null, .null, .null, .null, .null, .null, .null, .null, .null, .null, .null, .null, .null, .null, .null, .null, .int 0, .null, .null, .null, .null, .null, .null, .null, .int 0, .int 0, .int 0, .int 0, .int 0, .int 0, .int 0, .null, .int 0, .int 0, .int 0, .int 0, .int 0, .null, .int 0]))] ++ T_3) := hD_36
  clear hD_36
  refine lv_aload_n hx hb di_Model_29 rfl (lv_at hl 0 rfl) ?_
  refine lv_iconst (v := 4) hx hb di_Model_30 (by decide) ?_
  refine va_newa (atype := .int) (a0 := (4, .inl (fun _ => 0))) hx hb (hts _ dh_w_aI) rfl hK hP_38 hD_39 hS_37 hA (fun _ => rfl) (by decide) (by decide) (by decide) (Nat.le_of_ble_eq_true rfl) (Nat.le_of_ble_eq_true rfl) di_Model_31 (fun q4 cA H_40 hK1 hP_41 hD_42 hS_43 => ?_)
  clear hP_38 hD_39 hS_37
  obtain rfl := dh_ta1 hK1
  clear hK1
  have hPj : va_P D vwCl ([(h0, .inr (11, [.ref q1, .ref q2, .ref q3, .null, .null, .null, .null, .int 0, .int 0, .null, .int 0, .int 0, .int 0, .int 0, .int 0, .int 0, .int 0, .int 0, .int 0, .null, .null, .null, .null, .null, .null, .null, .null, .null, .null, .null, .null, .null, .null, .null, .null, .int 0, .null, .null, .null, .null, .null, .null, .null, .int 0, .int 0, .int 0, .int 0, .int 0, .int 0, .int 0, .null, .int 0, .int 0, .int 0, .int 0, .int 0, .null, .int 0]))] ++ (T_3 ++ [(q4, .inl (ta 1, (4, .inl (fun _ => 0))))])) H_40 := by rw [← List.append_assoc]; exact hP_41
  have hDj : va_D A ([(h0, .inr (11, [.ref q1, .ref q2, .ref q3, .null, .null, .null, .null, .int 0, .int 0, .null, .int 0, .int 0, .int 0, .int 0, .int 0, .int 0, .int 0, .int 0, .int 0, .null, .null, .null, .null, .null, .null, .null, .null, .null, .null, .null, .null, .null, .null, .null, .null, .int 0, .null, .null, .null, .null, .null, .null, .null, .int 0, .int 0, .int 0, .int 0, .int 0, .int 0, .int 0, .null, .int 0, .int 0, .int 0, .int 0, .int 0, .null, .int 0]))] ++ (T_3 ++ [(q4, .inl (ta 1, (4, .inl (fun _ => 0))))])) := by rw [← List.append_assoc]; exact hD_42
  clear hP_41 hD_42
  obtain ⟨T_4, eT_4⟩ : ∃ z, z = T_3 ++ [(q4, .inl (ta 1, (4, .inl (fun _ => 0))))] := ⟨_, rfl⟩
  rw [← eT_4] at hPj hDj
  have hP_44 := hPj
  have hD_45 := hDj
  clear hPj hDj
  refine W.widen (k := 4) (n := 13456) (Nat.le_of_ble_eq_true rfl) (Nat.le_of_ble_eq_true rfl) ?_
  refine va_putF (D := D) (ci := 11) (v := .ref q4) (ty := .array .int) (C := RX11) (T := TX11) (N := 58) hx hb hts dh_u11 tyX11 tyX11_ok nmX11 hown hK hP_44 hD_45 hS_43 0 rfl rfl 3 (by decide) (hts (.fieldLink RX11 19 RX11 "ruleMany" "[I") (dh_has_in (i := 1114) (by decide +kernel))) (fun _ h9 => h9) rfl hin rfl (by decide +kernel) rfl rfl (Nat.le_of_ble_eq_true rfl) di_Model_33 (fun H_46 locs_47 hP_48 hD_49 hS_50 => ?_)
  clear hP_44 hD_45 hS_43
  have hP_51 : va_P D vwCl ([(h0, .inr (11, [.ref q1, .ref q2, .ref q3, .ref q4, .null, .null, .null, .int 0, .int 0, .null, .int 0, .int 0, .int 0, .int 0, .int 0, .int 0, .int 0, .int 0, .int 0, .null, .null, .null, .null, .null, .null, .null, .null, .null, .null, .null, .null, .null, .null, .null, .null, .int 0, .null, .null, .null, .null, .null, .null, .null, .int 0, .int 0, .int 0, .int 0, .int 0, .int 0, .int 0, .null, .int 0, .int 0, .int 0, .int 0, .int 0, .null, .int 0]))] ++ T_4) H_46 := hP_48
  clear hP_48
  have hD_52 : va_D A ([(h0, .inr (11, [.ref q1, .ref q2, .ref q3, .ref q4, .null, .null, .null, .int 0, .int 0, .null, .int 0, .int 0, .int 0, .int 0, .int 0, .int 0, .int 0, .int 0, .int 0, .null, .null, .null, .null, .null, .null, .null, .null, .null, .null, .null, .null, .null, .null, .null, .null, .int 0, .null, .null, .null, .null, .null, .null, .null, .int 0, .int 0, .int 0, .int 0, .int 0, .int 0, .int 0, .null, .int 0, .int 0, .int 0, .int 0, .int 0, .null, .int 0]))] ++ T_4) := hD_49
  clear hD_49
  refine lv_aload_n hx hb di_Model_36 rfl (lv_at hl 0 rfl) ?_
  refine lv_bipush (v := 9) hx hb di_Model_37 (by decide) ?_
  refine va_newa (atype := .int) (a0 := (9, .inl (fun _ => 0))) hx hb (hts _ dh_w_aI) rfl hK hP_51 hD_52 hS_50 hA (fun _ => rfl) (by decide) (by decide) (by decide) (Nat.le_of_ble_eq_true rfl) (Nat.le_of_ble_eq_true rfl) di_Model_39 (fun q5 cA H_53 hK1 hP_54 hD_55 hS_56 => ?_)
  clear hP_51 hD_52 hS_50
  obtain rfl := dh_ta1 hK1
  clear hK1
  have hPj : va_P D vwCl ([(h0, .inr (11, [.ref q1, .ref q2, .ref q3, .ref q4, .null, .null, .null, .int 0, .int 0, .null, .int 0, .int 0, .int 0, .int 0, .int 0, .int 0, .int 0, .int 0, .int 0, .null, .null, .null, .null, .null, .null, .null, .null, .null, .null, .null, .null, .null, .null, .null, .null, .int 0, .null, .null, .null, .null, .null, .null, .null, .int 0, .int 0, .int 0, .int 0, .int 0, .int 0, .int 0, .null, .int 0, .int 0, .int 0, .int 0, .int 0, .null, .int 0]))] ++ (T_4 ++ [(q5, .inl (ta 1, (9, .inl (fun _ => 0))))])) H_53 := by rw [← List.append_assoc]; exact hP_54
  have hDj : va_D A ([(h0, .inr (11, [.ref q1, .ref q2, .ref q3, .ref q4, .null, .null, .null, .int 0, .int 0, .null, .int 0, .int 0, .int 0, .int 0, .int 0, .int 0, .int 0, .int 0, .int 0, .null, .null, .null, .null, .null, .null, .null, .null, .null, .null, .null, .null, .null, .null, .null, .null, .int 0, .null, .null, .null, .null, .null, .null, .null, .int 0, .int 0, .int 0, .int 0, .int 0, .int 0, .int 0, .null, .int 0, .int 0, .int 0, .int 0, .int 0, .null, .int 0]))] ++ (T_4 ++ [(q5, .inl (ta 1, (9, .inl (fun _ => 0))))])) := by rw [← List.append_assoc]; exact hD_55
  clear hP_54 hD_55
  obtain ⟨T_5, eT_5⟩ : ∃ z, z = T_4 ++ [(q5, .inl (ta 1, (9, .inl (fun _ => 0))))] := ⟨_, rfl⟩
  rw [← eT_5] at hPj hDj
  have hP_57 := hPj
  have hD_58 := hDj
  clear hPj hDj
  refine W.widen (k := 5) (n := 13465) (Nat.le_of_ble_eq_true rfl) (Nat.le_of_ble_eq_true rfl) ?_
  refine va_putF (D := D) (ci := 11) (v := .ref q5) (ty := .array .int) (C := RX11) (T := TX11) (N := 58) hx hb hts dh_u11 tyX11 tyX11_ok nmX11 hown hK hP_57 hD_58 hS_56 0 rfl rfl 4 (by decide) (hts (.fieldLink RX11 23 RX11 "gameHeap" "[I") (dh_has_in (i := 1115) (by decide +kernel))) (fun _ h9 => h9) rfl hin rfl (by decide +kernel) rfl rfl (Nat.le_of_ble_eq_true rfl) di_Model_41 (fun H_59 locs_60 hP_61 hD_62 hS_63 => ?_)
  clear hP_57 hD_58 hS_56
  have hP_64 : va_P D vwCl ([(h0, .inr (11, [.ref q1, .ref q2, .ref q3, .ref q4, .ref q5, .null, .null, .int 0, .int 0, .null, .int 0, .int 0, .int 0, .int 0, .int 0, .int 0, .int 0, .int 0, .int 0, .null, .null, .null, .null, .null, .null, .null, .null, .null, .null, .null, .null, .null, .null, .null, .null, .int 0, .null, .null, .null, .null, .null, .null, .null, .int 0, .int 0, .int 0, .int 0, .int 0, .int 0, .int 0, .null, .int 0, .int 0, .int 0, .int 0, .int 0, .null, .int 0]))] ++ T_5) H_59 := hP_61
  clear hP_61
  have hD_65 : va_D A ([(h0, .inr (11, [.ref q1, .ref q2, .ref q3, .ref q4, .ref q5, .null, .null, .int 0, .int 0, .null, .int 0, .int 0, .int 0, .int 0, .int 0, .int 0, .int 0, .int 0, .int 0, .null, .null, .null, .null, .null, .null, .null, .null, .null, .null, .null, .null, .null, .null, .null, .null, .int 0, .null, .null, .null, .null, .null, .null, .null, .int 0, .int 0, .int 0, .int 0, .int 0, .int 0, .int 0, .null, .int 0, .int 0, .int 0, .int 0, .int 0, .null, .int 0]))] ++ T_5) := hD_62
  clear hD_62
  refine lv_aload_n hx hb di_Model_44 rfl (lv_at hl 0 rfl) ?_
  refine lv_bipush (v := 9) hx hb di_Model_45 (by decide) ?_
  refine va_newa (atype := .int) (a0 := (9, .inl (fun _ => 0))) hx hb (hts _ dh_w_aI) rfl hK hP_64 hD_65 hS_63 hA (fun _ => rfl) (by decide) (by decide) (by decide) (Nat.le_of_ble_eq_true rfl) (Nat.le_of_ble_eq_true rfl) di_Model_47 (fun q6 cA H_66 hK1 hP_67 hD_68 hS_69 => ?_)
  clear hP_64 hD_65 hS_63
  obtain rfl := dh_ta1 hK1
  clear hK1
  have hPj : va_P D vwCl ([(h0, .inr (11, [.ref q1, .ref q2, .ref q3, .ref q4, .ref q5, .null, .null, .int 0, .int 0, .null, .int 0, .int 0, .int 0, .int 0, .int 0, .int 0, .int 0, .int 0, .int 0, .null, .null, .null, .null, .null, .null, .null, .null, .null, .null, .null, .null, .null, .null, .null, .null, .int 0, .null, .null, .null, .null, .null, .null, .null, .int 0, .int 0, .int 0, .int 0, .int 0, .int 0, .int 0, .null, .int 0, .int 0, .int 0, .int 0, .int 0, .null, .int 0]))] ++ (T_5 ++ [(q6, .inl (ta 1, (9, .inl (fun _ => 0))))])) H_66 := by rw [← List.append_assoc]; exact hP_67
  have hDj : va_D A ([(h0, .inr (11, [.ref q1, .ref q2, .ref q3, .ref q4, .ref q5, .null, .null, .int 0, .int 0, .null, .int 0, .int 0, .int 0, .int 0, .int 0, .int 0, .int 0, .int 0, .int 0, .null, .null, .null, .null, .null, .null, .null, .null, .null, .null, .null, .null, .null, .null, .null, .null, .int 0, .null, .null, .null, .null, .null, .null, .null, .int 0, .int 0, .int 0, .int 0, .int 0, .int 0, .int 0, .null, .int 0, .int 0, .int 0, .int 0, .int 0, .null, .int 0]))] ++ (T_5 ++ [(q6, .inl (ta 1, (9, .inl (fun _ => 0))))])) := by rw [← List.append_assoc]; exact hD_68
  clear hP_67 hD_68
  obtain ⟨T_6, eT_6⟩ : ∃ z, z = T_5 ++ [(q6, .inl (ta 1, (9, .inl (fun _ => 0))))] := ⟨_, rfl⟩
  rw [← eT_6] at hPj hDj
  have hP_70 := hPj
  have hD_71 := hDj
  clear hPj hDj
  refine W.widen (k := 6) (n := 13474) (Nat.le_of_ble_eq_true rfl) (Nat.le_of_ble_eq_true rfl) ?_
  refine va_putF (D := D) (ci := 11) (v := .ref q6) (ty := .array .int) (C := RX11) (T := TX11) (N := 58) hx hb hts dh_u11 tyX11 tyX11_ok nmX11 hown hK hP_70 hD_71 hS_69 0 rfl rfl 5 (by decide) (hts (.fieldLink RX11 26 RX11 "gameMany" "[I") (dh_has_in (i := 1116) (by decide +kernel))) (fun _ h9 => h9) rfl hin rfl (by decide +kernel) rfl rfl (Nat.le_of_ble_eq_true rfl) di_Model_49 (fun H_72 locs_73 hP_74 hD_75 hS_76 => ?_)
  clear hP_70 hD_71 hS_69
  have hP_77 : va_P D vwCl ([(h0, .inr (11, [.ref q1, .ref q2, .ref q3, .ref q4, .ref q5, .ref q6, .null, .int 0, .int 0, .null, .int 0, .int 0, .int 0, .int 0, .int 0, .int 0, .int 0, .int 0, .int 0, .null, .null, .null, .null, .null, .null, .null, .null, .null, .null, .null, .null, .null, .null, .null, .null, .int 0, .null, .null, .null, .null, .null, .null, .null, .int 0, .int 0, .int 0, .int 0, .int 0, .int 0, .int 0, .null, .int 0, .int 0, .int 0, .int 0, .int 0, .null, .int 0]))] ++ T_6) H_72 := hP_74
  clear hP_74
  have hD_78 : va_D A ([(h0, .inr (11, [.ref q1, .ref q2, .ref q3, .ref q4, .ref q5, .ref q6, .null, .int 0, .int 0, .null, .int 0, .int 0, .int 0, .int 0, .int 0, .int 0, .int 0, .int 0, .int 0, .null, .null, .null, .null, .null, .null, .null, .null, .null, .null, .null, .null, .null, .null, .null, .null, .int 0, .null, .null, .null, .null, .null, .null, .null, .int 0, .int 0, .int 0, .int 0, .int 0, .int 0, .int 0, .null, .int 0, .int 0, .int 0, .int 0, .int 0, .null, .int 0]))] ++ T_6) := hD_75
  clear hD_75
  refine lv_aload_n hx hb di_Model_52 rfl (lv_at hl 0 rfl) ?_
  refine lv_sipush (v := 360) hx hb di_Model_53 (by decide) ?_
  refine va_newa (atype := .int) (a0 := (360, .inl (fun _ => 0))) hx hb (hts _ dh_w_aI) rfl hK hP_77 hD_78 hS_76 hA (fun _ => rfl) (by decide) (by decide) (by decide) (Nat.le_of_ble_eq_true rfl) (Nat.le_of_ble_eq_true rfl) di_Model_56 (fun q7 cA H_79 hK1 hP_80 hD_81 hS_82 => ?_)
  clear hP_77 hD_78 hS_76
  obtain rfl := dh_ta1 hK1
  clear hK1
  have hPj : va_P D vwCl ([(h0, .inr (11, [.ref q1, .ref q2, .ref q3, .ref q4, .ref q5, .ref q6, .null, .int 0, .int 0, .null, .int 0, .int 0, .int 0, .int 0, .int 0, .int 0, .int 0, .int 0, .int 0, .null, .null, .null, .null, .null, .null, .null, .null, .null, .null, .null, .null, .null, .null, .null, .null, .int 0, .null, .null, .null, .null, .null, .null, .null, .int 0, .int 0, .int 0, .int 0, .int 0, .int 0, .int 0, .null, .int 0, .int 0, .int 0, .int 0, .int 0, .null, .int 0]))] ++ (T_6 ++ [(q7, .inl (ta 1, (360, .inl (fun _ => 0))))])) H_79 := by rw [← List.append_assoc]; exact hP_80
  have hDj : va_D A ([(h0, .inr (11, [.ref q1, .ref q2, .ref q3, .ref q4, .ref q5, .ref q6, .null, .int 0, .int 0, .null, .int 0, .int 0, .int 0, .int 0, .int 0, .int 0, .int 0, .int 0, .int 0, .null, .null, .null, .null, .null, .null, .null, .null, .null, .null, .null, .null, .null, .null, .null, .null, .int 0, .null, .null, .null, .null, .null, .null, .null, .int 0, .int 0, .int 0, .int 0, .int 0, .int 0, .int 0, .null, .int 0, .int 0, .int 0, .int 0, .int 0, .null, .int 0]))] ++ (T_6 ++ [(q7, .inl (ta 1, (360, .inl (fun _ => 0))))])) := by rw [← List.append_assoc]; exact hD_81
  clear hP_80 hD_81
  obtain ⟨T_7, eT_7⟩ : ∃ z, z = T_6 ++ [(q7, .inl (ta 1, (360, .inl (fun _ => 0))))] := ⟨_, rfl⟩
  rw [← eT_7] at hPj hDj
  have hP_83 := hPj
  have hD_84 := hDj
  clear hPj hDj
  refine W.widen (k := 7) (n := 13834) (Nat.le_of_ble_eq_true rfl) (Nat.le_of_ble_eq_true rfl) ?_
  refine va_putF (D := D) (ci := 11) (v := .ref q7) (ty := .array .int) (C := RX11) (T := TX11) (N := 58) hx hb hts dh_u11 tyX11 tyX11_ok nmX11 hown hK hP_83 hD_84 hS_82 0 rfl rfl 6 (by decide) (hts (.fieldLink RX11 29 RX11 "gameTake" "[I") (dh_has_in (i := 1117) (by decide +kernel))) (fun _ h9 => h9) rfl hin rfl (by decide +kernel) rfl rfl (Nat.le_of_ble_eq_true rfl) di_Model_58 (fun H_85 locs_86 hP_87 hD_88 hS_89 => ?_)
  clear hP_83 hD_84 hS_82
  have hP_90 : va_P D vwCl ([(h0, .inr (11, [.ref q1, .ref q2, .ref q3, .ref q4, .ref q5, .ref q6, .ref q7, .int 0, .int 0, .null, .int 0, .int 0, .int 0, .int 0, .int 0, .int 0, .int 0, .int 0, .int 0, .null, .null, .null, .null, .null, .null, .null, .null, .null, .null, .null, .null, .null, .null, .null, .null, .int 0, .null, .null, .null, .null, .null, .null, .null, .int 0, .int 0, .int 0, .int 0, .int 0, .int 0, .int 0, .null, .int 0, .int 0, .int 0, .int 0, .int 0, .null, .int 0]))] ++ T_7) H_85 := hP_87
  clear hP_87
  have hD_91 : va_D A ([(h0, .inr (11, [.ref q1, .ref q2, .ref q3, .ref q4, .ref q5, .ref q6, .ref q7, .int 0, .int 0, .null, .int 0, .int 0, .int 0, .int 0, .int 0, .int 0, .int 0, .int 0, .int 0, .null, .null, .null, .null, .null, .null, .null, .null, .null, .null, .null, .null, .null, .null, .null, .null, .int 0, .null, .null, .null, .null, .null, .null, .null, .int 0, .int 0, .int 0, .int 0, .int 0, .int 0, .int 0, .null, .int 0, .int 0, .int 0, .int 0, .int 0, .null, .int 0]))] ++ T_7) := hD_88
  clear hD_88
  refine lv_aload_n hx hb di_Model_61 rfl (lv_at hl 0 rfl) ?_
  refine lv_sipush (v := 260) hx hb di_Model_62 (by decide) ?_
  refine va_newa (atype := .byte) (a0 := (260, .inl (fun _ => 0))) hx hb (hts _ dh_w_aB) rfl hK hP_90 hD_91 hS_89 hA (fun _ => rfl) (by decide) (by decide) (by decide) (Nat.le_of_ble_eq_true rfl) (Nat.le_of_ble_eq_true rfl) di_Model_65 (fun q8 cA H_92 hK1 hP_93 hD_94 hS_95 => ?_)
  clear hP_90 hD_91 hS_89
  obtain rfl := dh_ta3 hK1
  clear hK1
  have hPj : va_P D vwCl ([(h0, .inr (11, [.ref q1, .ref q2, .ref q3, .ref q4, .ref q5, .ref q6, .ref q7, .int 0, .int 0, .null, .int 0, .int 0, .int 0, .int 0, .int 0, .int 0, .int 0, .int 0, .int 0, .null, .null, .null, .null, .null, .null, .null, .null, .null, .null, .null, .null, .null, .null, .null, .null, .int 0, .null, .null, .null, .null, .null, .null, .null, .int 0, .int 0, .int 0, .int 0, .int 0, .int 0, .int 0, .null, .int 0, .int 0, .int 0, .int 0, .int 0, .null, .int 0]))] ++ (T_7 ++ [(q8, .inl (ta 3, (260, .inl (fun _ => 0))))])) H_92 := by rw [← List.append_assoc]; exact hP_93
  have hDj : va_D A ([(h0, .inr (11, [.ref q1, .ref q2, .ref q3, .ref q4, .ref q5, .ref q6, .ref q7, .int 0, .int 0, .null, .int 0, .int 0, .int 0, .int 0, .int 0, .int 0, .int 0, .int 0, .int 0, .null, .null, .null, .null, .null, .null, .null, .null, .null, .null, .null, .null, .null, .null, .null, .null, .int 0, .null, .null, .null, .null, .null, .null, .null, .int 0, .int 0, .int 0, .int 0, .int 0, .int 0, .int 0, .null, .int 0, .int 0, .int 0, .int 0, .int 0, .null, .int 0]))] ++ (T_7 ++ [(q8, .inl (ta 3, (260, .inl (fun _ => 0))))])) := by rw [← List.append_assoc]; exact hD_94
  clear hP_93 hD_94
  obtain ⟨T_8, eT_8⟩ : ∃ z, z = T_7 ++ [(q8, .inl (ta 3, (260, .inl (fun _ => 0))))] := ⟨_, rfl⟩
  rw [← eT_8] at hPj hDj
  have hP_96 := hPj
  have hD_97 := hDj
  clear hPj hDj
  refine W.widen (k := 8) (n := 14094) (Nat.le_of_ble_eq_true rfl) (Nat.le_of_ble_eq_true rfl) ?_
  refine va_putF (D := D) (ci := 11) (v := .ref q8) (ty := .array .byte) (C := RX11) (T := TX11) (N := 58) hx hb hts dh_u11 tyX11 tyX11_ok nmX11 hown hK hP_96 hD_97 hS_95 0 rfl rfl 9 (by decide) (hts (.fieldLink RX11 32 RX11 "tape" "[B") (dh_has_in (i := 1120) (by decide +kernel))) (fun _ h9 => h9) rfl hin rfl (by decide +kernel) rfl rfl (Nat.le_of_ble_eq_true rfl) di_Model_67 (fun H_98 locs_99 hP_100 hD_101 hS_102 => ?_)
  clear hP_96 hD_97 hS_95
  have hP_103 : va_P D vwCl ([(h0, .inr (11, [.ref q1, .ref q2, .ref q3, .ref q4, .ref q5, .ref q6, .ref q7, .int 0, .int 0, .ref q8, .int 0, .int 0, .int 0, .int 0, .int 0, .int 0, .int 0, .int 0, .int 0, .null, .null, .null, .null, .null, .null, .null, .null, .null, .null, .null, .null, .null, .null, .null, .null, .int 0, .null, .null, .null, .null, .null, .null, .null, .int 0, .int 0, .int 0, .int 0, .int 0, .int 0, .int 0, .null, .int 0, .int 0, .int 0, .int 0, .int 0, .null, .int 0]))] ++ T_8) H_98 := hP_100
  clear hP_100
  have hD_104 : va_D A ([(h0, .inr (11, [.ref q1, .ref q2, .ref q3, .ref q4, .ref q5, .ref q6, .ref q7, .int 0, .int 0, .ref q8, .int 0, .int 0, .int 0, .int 0, .int 0, .int 0, .int 0, .int 0, .int 0, .null, .null, .null, .null, .null, .null, .null, .null, .null, .null, .null, .null, .null, .null, .null, .null, .int 0, .null, .null, .null, .null, .null, .null, .null, .int 0, .int 0, .int 0, .int 0, .int 0, .int 0, .int 0, .null, .int 0, .int 0, .int 0, .int 0, .int 0, .null, .int 0]))] ++ T_8) := hD_101
  clear hD_101
  refine lv_aload_n hx hb di_Model_70 rfl (lv_at hl 0 rfl) ?_
  refine lv_sipush (v := 260) hx hb di_Model_71 (by decide) ?_
  refine va_newa (atype := .int) (a0 := (260, .inl (fun _ => 0))) hx hb (hts _ dh_w_aI) rfl hK hP_103 hD_104 hS_102 hA (fun _ => rfl) (by decide) (by decide) (by decide) (Nat.le_of_ble_eq_true rfl) (Nat.le_of_ble_eq_true rfl) di_Model_74 (fun q9 cA H_105 hK1 hP_106 hD_107 hS_108 => ?_)
  clear hP_103 hD_104 hS_102
  obtain rfl := dh_ta1 hK1
  clear hK1
  have hPj : va_P D vwCl ([(h0, .inr (11, [.ref q1, .ref q2, .ref q3, .ref q4, .ref q5, .ref q6, .ref q7, .int 0, .int 0, .ref q8, .int 0, .int 0, .int 0, .int 0, .int 0, .int 0, .int 0, .int 0, .int 0, .null, .null, .null, .null, .null, .null, .null, .null, .null, .null, .null, .null, .null, .null, .null, .null, .int 0, .null, .null, .null, .null, .null, .null, .null, .int 0, .int 0, .int 0, .int 0, .int 0, .int 0, .int 0, .null, .int 0, .int 0, .int 0, .int 0, .int 0, .null, .int 0]))] ++ (T_8 ++ [(q9, .inl (ta 1, (260, .inl (fun _ => 0))))])) H_105 := by rw [← List.append_assoc]; exact hP_106
  have hDj : va_D A ([(h0, .inr (11, [.ref q1, .ref q2, .ref q3, .ref q4, .ref q5, .ref q6, .ref q7, .int 0, .int 0, .ref q8, .int 0, .int 0, .int 0, .int 0, .int 0, .int 0, .int 0, .int 0, .int 0, .null, .null, .null, .null, .null, .null, .null, .null, .null, .null, .null, .null, .null, .null, .null, .null, .int 0, .null, .null, .null, .null, .null, .null, .null, .int 0, .int 0, .int 0, .int 0, .int 0, .int 0, .int 0, .null, .int 0, .int 0, .int 0, .int 0, .int 0, .null, .int 0]))] ++ (T_8 ++ [(q9, .inl (ta 1, (260, .inl (fun _ => 0))))])) := by rw [← List.append_assoc]; exact hD_107
  clear hP_106 hD_107
  obtain ⟨T_9, eT_9⟩ : ∃ z, z = T_8 ++ [(q9, .inl (ta 1, (260, .inl (fun _ => 0))))] := ⟨_, rfl⟩
  rw [← eT_9] at hPj hDj
  have hP_109 := hPj
  have hD_110 := hDj
  clear hPj hDj
  refine W.widen (k := 9) (n := 14354) (Nat.le_of_ble_eq_true rfl) (Nat.le_of_ble_eq_true rfl) ?_
  refine va_putF (D := D) (ci := 11) (v := .ref q9) (ty := .array .int) (C := RX11) (T := TX11) (N := 58) hx hb hts dh_u11 tyX11 tyX11_ok nmX11 hown hK hP_109 hD_110 hS_108 0 rfl rfl 19 (by decide) (hts (.fieldLink RX11 36 RX11 "said" "[I") (dh_has_in (i := 1130) (by decide +kernel))) (fun _ h9 => h9) rfl hin rfl (by decide +kernel) rfl rfl (Nat.le_of_ble_eq_true rfl) di_Model_76 (fun H_111 locs_112 hP_113 hD_114 hS_115 => ?_)
  clear hP_109 hD_110 hS_108
  have hP_116 : va_P D vwCl ([(h0, .inr (11, [.ref q1, .ref q2, .ref q3, .ref q4, .ref q5, .ref q6, .ref q7, .int 0, .int 0, .ref q8, .int 0, .int 0, .int 0, .int 0, .int 0, .int 0, .int 0, .int 0, .int 0, .ref q9, .null, .null, .null, .null, .null, .null, .null, .null, .null, .null, .null, .null, .null, .null, .null, .int 0, .null, .null, .null, .null, .null, .null, .null, .int 0, .int 0, .int 0, .int 0, .int 0, .int 0, .int 0, .null, .int 0, .int 0, .int 0, .int 0, .int 0, .null, .int 0]))] ++ T_9) H_111 := hP_113
  clear hP_113
  have hD_117 : va_D A ([(h0, .inr (11, [.ref q1, .ref q2, .ref q3, .ref q4, .ref q5, .ref q6, .ref q7, .int 0, .int 0, .ref q8, .int 0, .int 0, .int 0, .int 0, .int 0, .int 0, .int 0, .int 0, .int 0, .ref q9, .null, .null, .null, .null, .null, .null, .null, .null, .null, .null, .null, .null, .null, .null, .null, .int 0, .null, .null, .null, .null, .null, .null, .null, .int 0, .int 0, .int 0, .int 0, .int 0, .int 0, .int 0, .null, .int 0, .int 0, .int 0, .int 0, .int 0, .null, .int 0]))] ++ T_9) := hD_114
  clear hD_114
  refine lv_aload_n hx hb di_Model_79 rfl (lv_at hl 0 rfl) ?_
  refine lv_sipush (v := 260) hx hb di_Model_80 (by decide) ?_
  refine va_newa (atype := .int) (a0 := (260, .inl (fun _ => 0))) hx hb (hts _ dh_w_aI) rfl hK hP_116 hD_117 hS_115 hA (fun _ => rfl) (by decide) (by decide) (by decide) (Nat.le_of_ble_eq_true rfl) (Nat.le_of_ble_eq_true rfl) di_Model_83 (fun q10 cA H_118 hK1 hP_119 hD_120 hS_121 => ?_)
  clear hP_116 hD_117 hS_115
  obtain rfl := dh_ta1 hK1
  clear hK1
  have hPj : va_P D vwCl ([(h0, .inr (11, [.ref q1, .ref q2, .ref q3, .ref q4, .ref q5, .ref q6, .ref q7, .int 0, .int 0, .ref q8, .int 0, .int 0, .int 0, .int 0, .int 0, .int 0, .int 0, .int 0, .int 0, .ref q9, .null, .null, .null, .null, .null, .null, .null, .null, .null, .null, .null, .null, .null, .null, .null, .int 0, .null, .null, .null, .null, .null, .null, .null, .int 0, .int 0, .int 0, .int 0, .int 0, .int 0, .int 0, .null, .int 0, .int 0, .int 0, .int 0, .int 0, .null, .int 0]))] ++ (T_9 ++ [(q10, .inl (ta 1, (260, .inl (fun _ => 0))))])) H_118 := by rw [← List.append_assoc]; exact hP_119
  have hDj : va_D A ([(h0, .inr (11, [.ref q1, .ref q2, .ref q3, .ref q4, .ref q5, .ref q6, .ref q7, .int 0, .int 0, .ref q8, .int 0, .int 0, .int 0, .int 0, .int 0, .int 0, .int 0, .int 0, .int 0, .ref q9, .null, .null, .null, .null, .null, .null, .null, .null, .null, .null, .null, .null, .null, .null, .null, .int 0, .null, .null, .null, .null, .null, .null, .null, .int 0, .int 0, .int 0, .int 0, .int 0, .int 0, .int 0, .null, .int 0, .int 0, .int 0, .int 0, .int 0, .null, .int 0]))] ++ (T_9 ++ [(q10, .inl (ta 1, (260, .inl (fun _ => 0))))])) := by rw [← List.append_assoc]; exact hD_120
  clear hP_119 hD_120
  obtain ⟨T_10, eT_10⟩ : ∃ z, z = T_9 ++ [(q10, .inl (ta 1, (260, .inl (fun _ => 0))))] := ⟨_, rfl⟩
  rw [← eT_10] at hPj hDj
  have hP_122 := hPj
  have hD_123 := hDj
  clear hPj hDj
  refine W.widen (k := 10) (n := 14614) (Nat.le_of_ble_eq_true rfl) (Nat.le_of_ble_eq_true rfl) ?_
  refine va_putF (D := D) (ci := 11) (v := .ref q10) (ty := .array .int) (C := RX11) (T := TX11) (N := 58) hx hb hts dh_u11 tyX11 tyX11_ok nmX11 hown hK hP_122 hD_123 hS_121 0 rfl rfl 20 (by decide) (hts (.fieldLink RX11 39 RX11 "waitsAt" "[I") (dh_has_in (i := 1131) (by decide +kernel))) (fun _ h9 => h9) rfl hin rfl (by decide +kernel) rfl rfl (Nat.le_of_ble_eq_true rfl) di_Model_85 (fun H_124 locs_125 hP_126 hD_127 hS_128 => ?_)
  clear hP_122 hD_123 hS_121
  have hP_129 : va_P D vwCl ([(h0, .inr (11, [.ref q1, .ref q2, .ref q3, .ref q4, .ref q5, .ref q6, .ref q7, .int 0, .int 0, .ref q8, .int 0, .int 0, .int 0, .int 0, .int 0, .int 0, .int 0, .int 0, .int 0, .ref q9, .ref q10, .null, .null, .null, .null, .null, .null, .null, .null, .null, .null, .null, .null, .null, .null, .int 0, .null, .null, .null, .null, .null, .null, .null, .int 0, .int 0, .int 0, .int 0, .int 0, .int 0, .int 0, .null, .int 0, .int 0, .int 0, .int 0, .int 0, .null, .int 0]))] ++ T_10) H_124 := hP_126
  clear hP_126
  have hD_130 : va_D A ([(h0, .inr (11, [.ref q1, .ref q2, .ref q3, .ref q4, .ref q5, .ref q6, .ref q7, .int 0, .int 0, .ref q8, .int 0, .int 0, .int 0, .int 0, .int 0, .int 0, .int 0, .int 0, .int 0, .ref q9, .ref q10, .null, .null, .null, .null, .null, .null, .null, .null, .null, .null, .null, .null, .null, .null, .int 0, .null, .null, .null, .null, .null, .null, .null, .int 0, .int 0, .int 0, .int 0, .int 0, .int 0, .int 0, .null, .int 0, .int 0, .int 0, .int 0, .int 0, .null, .int 0]))] ++ T_10) := hD_127
  clear hD_127
  refine lv_aload_n hx hb di_Model_88 rfl (lv_at hl 0 rfl) ?_
  refine lv_bipush (v := 8) hx hb di_Model_89 (by decide) ?_
  refine va_newa (atype := .int) (a0 := (8, .inl (fun _ => 0))) hx hb (hts _ dh_w_aI) rfl hK hP_129 hD_130 hS_128 hA (fun _ => rfl) (by decide) (by decide) (by decide) (Nat.le_of_ble_eq_true rfl) (Nat.le_of_ble_eq_true rfl) di_Model_91 (fun q11 cA H_131 hK1 hP_132 hD_133 hS_134 => ?_)
  clear hP_129 hD_130 hS_128
  obtain rfl := dh_ta1 hK1
  clear hK1
  have hPj : va_P D vwCl ([(h0, .inr (11, [.ref q1, .ref q2, .ref q3, .ref q4, .ref q5, .ref q6, .ref q7, .int 0, .int 0, .ref q8, .int 0, .int 0, .int 0, .int 0, .int 0, .int 0, .int 0, .int 0, .int 0, .ref q9, .ref q10, .null, .null, .null, .null, .null, .null, .null, .null, .null, .null, .null, .null, .null, .null, .int 0, .null, .null, .null, .null, .null, .null, .null, .int 0, .int 0, .int 0, .int 0, .int 0, .int 0, .int 0, .null, .int 0, .int 0, .int 0, .int 0, .int 0, .null, .int 0]))] ++ (T_10 ++ [(q11, .inl (ta 1, (8, .inl (fun _ => 0))))])) H_131 := by rw [← List.append_assoc]; exact hP_132
  have hDj : va_D A ([(h0, .inr (11, [.ref q1, .ref q2, .ref q3, .ref q4, .ref q5, .ref q6, .ref q7, .int 0, .int 0, .ref q8, .int 0, .int 0, .int 0, .int 0, .int 0, .int 0, .int 0, .int 0, .int 0, .ref q9, .ref q10, .null, .null, .null, .null, .null, .null, .null, .null, .null, .null, .null, .null, .null, .null, .int 0, .null, .null, .null, .null, .null, .null, .null, .int 0, .int 0, .int 0, .int 0, .int 0, .int 0, .int 0, .null, .int 0, .int 0, .int 0, .int 0, .int 0, .null, .int 0]))] ++ (T_10 ++ [(q11, .inl (ta 1, (8, .inl (fun _ => 0))))])) := by rw [← List.append_assoc]; exact hD_133
  clear hP_132 hD_133
  obtain ⟨T_11, eT_11⟩ : ∃ z, z = T_10 ++ [(q11, .inl (ta 1, (8, .inl (fun _ => 0))))] := ⟨_, rfl⟩
  rw [← eT_11] at hPj hDj
  have hP_135 := hPj
  have hD_136 := hDj
  clear hPj hDj
  refine W.widen (k := 11) (n := 14622) (Nat.le_of_ble_eq_true rfl) (Nat.le_of_ble_eq_true rfl) ?_
  refine va_putF (D := D) (ci := 11) (v := .ref q11) (ty := .array .int) (C := RX11) (T := TX11) (N := 58) hx hb hts dh_u11 tyX11 tyX11_ok nmX11 hown hK hP_135 hD_136 hS_134 0 rfl rfl 21 (by decide) (hts (.fieldLink RX11 42 RX11 "saidLetter" "[I") (dh_has_in (i := 1132) (by decide +kernel))) (fun _ h9 => h9) rfl hin rfl (by decide +kernel) rfl rfl (Nat.le_of_ble_eq_true rfl) di_Model_93 (fun H_137 locs_138 hP_139 hD_140 hS_141 => ?_)
  clear hP_135 hD_136 hS_134
  have hP_142 : va_P D vwCl ([(h0, .inr (11, [.ref q1, .ref q2, .ref q3, .ref q4, .ref q5, .ref q6, .ref q7, .int 0, .int 0, .ref q8, .int 0, .int 0, .int 0, .int 0, .int 0, .int 0, .int 0, .int 0, .int 0, .ref q9, .ref q10, .ref q11, .null, .null, .null, .null, .null, .null, .null, .null, .null, .null, .null, .null, .null, .int 0, .null, .null, .null, .null, .null, .null, .null, .int 0, .int 0, .int 0, .int 0, .int 0, .int 0, .int 0, .null, .int 0, .int 0, .int 0, .int 0, .int 0, .null, .int 0]))] ++ T_11) H_137 := hP_139
  clear hP_139
  have hD_143 : va_D A ([(h0, .inr (11, [.ref q1, .ref q2, .ref q3, .ref q4, .ref q5, .ref q6, .ref q7, .int 0, .int 0, .ref q8, .int 0, .int 0, .int 0, .int 0, .int 0, .int 0, .int 0, .int 0, .int 0, .ref q9, .ref q10, .ref q11, .null, .null, .null, .null, .null, .null, .null, .null, .null, .null, .null, .null, .null, .int 0, .null, .null, .null, .null, .null, .null, .null, .int 0, .int 0, .int 0, .int 0, .int 0, .int 0, .int 0, .null, .int 0, .int 0, .int 0, .int 0, .int 0, .null, .int 0]))] ++ T_11) := hD_140
  clear hD_140
  refine lv_aload_n hx hb di_Model_96 rfl (lv_at hl 0 rfl) ?_
  refine lv_bipush (v := 8) hx hb di_Model_97 (by decide) ?_
  refine va_newa (atype := .int) (a0 := (8, .inl (fun _ => 0))) hx hb (hts _ dh_w_aI) rfl hK hP_142 hD_143 hS_141 hA (fun _ => rfl) (by decide) (by decide) (by decide) (Nat.le_of_ble_eq_true rfl) (Nat.le_of_ble_eq_true rfl) di_Model_99 (fun q12 cA H_144 hK1 hP_145 hD_146 hS_147 => ?_)
  clear hP_142 hD_143 hS_141
  obtain rfl := dh_ta1 hK1
  clear hK1
  have hPj : va_P D vwCl ([(h0, .inr (11, [.ref q1, .ref q2, .ref q3, .ref q4, .ref q5, .ref q6, .ref q7, .int 0, .int 0, .ref q8, .int 0, .int 0, .int 0, .int 0, .int 0, .int 0, .int 0, .int 0, .int 0, .ref q9, .ref q10, .ref q11, .null, .null, .null, .null, .null, .null, .null, .null, .null, .null, .null, .null, .null, .int 0, .null, .null, .null, .null, .null, .null, .null, .int 0, .int 0, .int 0, .int 0, .int 0, .int 0, .int 0, .null, .int 0, .int 0, .int 0, .int 0, .int 0, .null, .int 0]))] ++ (T_11 ++ [(q12, .inl (ta 1, (8, .inl (fun _ => 0))))])) H_144 := by rw [← List.append_assoc]; exact hP_145
  have hDj : va_D A ([(h0, .inr (11, [.ref q1, .ref q2, .ref q3, .ref q4, .ref q5, .ref q6, .ref q7, .int 0, .int 0, .ref q8, .int 0, .int 0, .int 0, .int 0, .int 0, .int 0, .int 0, .int 0, .int 0, .ref q9, .ref q10, .ref q11, .null, .null, .null, .null, .null, .null, .null, .null, .null, .null, .null, .null, .null, .int 0, .null, .null, .null, .null, .null, .null, .null, .int 0, .int 0, .int 0, .int 0, .int 0, .int 0, .int 0, .null, .int 0, .int 0, .int 0, .int 0, .int 0, .null, .int 0]))] ++ (T_11 ++ [(q12, .inl (ta 1, (8, .inl (fun _ => 0))))])) := by rw [← List.append_assoc]; exact hD_146
  clear hP_145 hD_146
  obtain ⟨T_12, eT_12⟩ : ∃ z, z = T_11 ++ [(q12, .inl (ta 1, (8, .inl (fun _ => 0))))] := ⟨_, rfl⟩
  rw [← eT_12] at hPj hDj
  have hP_148 := hPj
  have hD_149 := hDj
  clear hPj hDj
  refine W.widen (k := 12) (n := 14630) (Nat.le_of_ble_eq_true rfl) (Nat.le_of_ble_eq_true rfl) ?_
  refine va_putF (D := D) (ci := 11) (v := .ref q12) (ty := .array .int) (C := RX11) (T := TX11) (N := 58) hx hb hts dh_u11 tyX11 tyX11_ok nmX11 hown hK hP_148 hD_149 hS_147 0 rfl rfl 22 (by decide) (hts (.fieldLink RX11 45 RX11 "saidFrom" "[I") (dh_has_in (i := 1133) (by decide +kernel))) (fun _ h9 => h9) rfl hin rfl (by decide +kernel) rfl rfl (Nat.le_of_ble_eq_true rfl) di_Model_101 (fun H_150 locs_151 hP_152 hD_153 hS_154 => ?_)
  clear hP_148 hD_149 hS_147
  have hP_155 : va_P D vwCl ([(h0, .inr (11, [.ref q1, .ref q2, .ref q3, .ref q4, .ref q5, .ref q6, .ref q7, .int 0, .int 0, .ref q8, .int 0, .int 0, .int 0, .int 0, .int 0, .int 0, .int 0, .int 0, .int 0, .ref q9, .ref q10, .ref q11, .ref q12, .null, .null, .null, .null, .null, .null, .null, .null, .null, .null, .null, .null, .int 0, .null, .null, .null, .null, .null, .null, .null, .int 0, .int 0, .int 0, .int 0, .int 0, .int 0, .int 0, .null, .int 0, .int 0, .int 0, .int 0, .int 0, .null, .int 0]))] ++ T_12) H_150 := hP_152
  clear hP_152
  have hD_156 : va_D A ([(h0, .inr (11, [.ref q1, .ref q2, .ref q3, .ref q4, .ref q5, .ref q6, .ref q7, .int 0, .int 0, .ref q8, .int 0, .int 0, .int 0, .int 0, .int 0, .int 0, .int 0, .int 0, .int 0, .ref q9, .ref q10, .ref q11, .ref q12, .null, .null, .null, .null, .null, .null, .null, .null, .null, .null, .null, .null, .int 0, .null, .null, .null, .null, .null, .null, .null, .int 0, .int 0, .int 0, .int 0, .int 0, .int 0, .int 0, .null, .int 0, .int 0, .int 0, .int 0, .int 0, .null, .int 0]))] ++ T_12) := hD_153
  clear hD_153
  refine lv_aload_n hx hb di_Model_104 rfl (lv_at hl 0 rfl) ?_
  refine lv_bipush (v := 8) hx hb di_Model_105 (by decide) ?_
  refine va_newa (atype := .int) (a0 := (8, .inl (fun _ => 0))) hx hb (hts _ dh_w_aI) rfl hK hP_155 hD_156 hS_154 hA (fun _ => rfl) (by decide) (by decide) (by decide) (Nat.le_of_ble_eq_true rfl) (Nat.le_of_ble_eq_true rfl) di_Model_107 (fun q13 cA H_157 hK1 hP_158 hD_159 hS_160 => ?_)
  clear hP_155 hD_156 hS_154
  obtain rfl := dh_ta1 hK1
  clear hK1
  have hPj : va_P D vwCl ([(h0, .inr (11, [.ref q1, .ref q2, .ref q3, .ref q4, .ref q5, .ref q6, .ref q7, .int 0, .int 0, .ref q8, .int 0, .int 0, .int 0, .int 0, .int 0, .int 0, .int 0, .int 0, .int 0, .ref q9, .ref q10, .ref q11, .ref q12, .null, .null, .null, .null, .null, .null, .null, .null, .null, .null, .null, .null, .int 0, .null, .null, .null, .null, .null, .null, .null, .int 0, .int 0, .int 0, .int 0, .int 0, .int 0, .int 0, .null, .int 0, .int 0, .int 0, .int 0, .int 0, .null, .int 0]))] ++ (T_12 ++ [(q13, .inl (ta 1, (8, .inl (fun _ => 0))))])) H_157 := by rw [← List.append_assoc]; exact hP_158
  have hDj : va_D A ([(h0, .inr (11, [.ref q1, .ref q2, .ref q3, .ref q4, .ref q5, .ref q6, .ref q7, .int 0, .int 0, .ref q8, .int 0, .int 0, .int 0, .int 0, .int 0, .int 0, .int 0, .int 0, .int 0, .ref q9, .ref q10, .ref q11, .ref q12, .null, .null, .null, .null, .null, .null, .null, .null, .null, .null, .null, .null, .int 0, .null, .null, .null, .null, .null, .null, .null, .int 0, .int 0, .int 0, .int 0, .int 0, .int 0, .int 0, .null, .int 0, .int 0, .int 0, .int 0, .int 0, .null, .int 0]))] ++ (T_12 ++ [(q13, .inl (ta 1, (8, .inl (fun _ => 0))))])) := by rw [← List.append_assoc]; exact hD_159
  clear hP_158 hD_159
  obtain ⟨T_13, eT_13⟩ : ∃ z, z = T_12 ++ [(q13, .inl (ta 1, (8, .inl (fun _ => 0))))] := ⟨_, rfl⟩
  rw [← eT_13] at hPj hDj
  have hP_161 := hPj
  have hD_162 := hDj
  clear hPj hDj
  refine W.widen (k := 13) (n := 14638) (Nat.le_of_ble_eq_true rfl) (Nat.le_of_ble_eq_true rfl) ?_
  refine va_putF (D := D) (ci := 11) (v := .ref q13) (ty := .array .int) (C := RX11) (T := TX11) (N := 58) hx hb hts dh_u11 tyX11 tyX11_ok nmX11 hown hK hP_161 hD_162 hS_160 0 rfl rfl 23 (by decide) (hts (.fieldLink RX11 48 RX11 "saidHalf" "[I") (dh_has_in (i := 1134) (by decide +kernel))) (fun _ h9 => h9) rfl hin rfl (by decide +kernel) rfl rfl (Nat.le_of_ble_eq_true rfl) di_Model_109 (fun H_163 locs_164 hP_165 hD_166 hS_167 => ?_)
  clear hP_161 hD_162 hS_160
  have hP_168 : va_P D vwCl ([(h0, .inr (11, [.ref q1, .ref q2, .ref q3, .ref q4, .ref q5, .ref q6, .ref q7, .int 0, .int 0, .ref q8, .int 0, .int 0, .int 0, .int 0, .int 0, .int 0, .int 0, .int 0, .int 0, .ref q9, .ref q10, .ref q11, .ref q12, .ref q13, .null, .null, .null, .null, .null, .null, .null, .null, .null, .null, .null, .int 0, .null, .null, .null, .null, .null, .null, .null, .int 0, .int 0, .int 0, .int 0, .int 0, .int 0, .int 0, .null, .int 0, .int 0, .int 0, .int 0, .int 0, .null, .int 0]))] ++ T_13) H_163 := hP_165
  clear hP_165
  have hD_169 : va_D A ([(h0, .inr (11, [.ref q1, .ref q2, .ref q3, .ref q4, .ref q5, .ref q6, .ref q7, .int 0, .int 0, .ref q8, .int 0, .int 0, .int 0, .int 0, .int 0, .int 0, .int 0, .int 0, .int 0, .ref q9, .ref q10, .ref q11, .ref q12, .ref q13, .null, .null, .null, .null, .null, .null, .null, .null, .null, .null, .null, .int 0, .null, .null, .null, .null, .null, .null, .null, .int 0, .int 0, .int 0, .int 0, .int 0, .int 0, .int 0, .null, .int 0, .int 0, .int 0, .int 0, .int 0, .null, .int 0]))] ++ T_13) := hD_166
  clear hD_166
  refine lv_aload_n hx hb di_Model_112 rfl (lv_at hl 0 rfl) ?_
  refine lv_bipush (v := 8) hx hb di_Model_113 (by decide) ?_
  refine va_newa (atype := .int) (a0 := (8, .inl (fun _ => 0))) hx hb (hts _ dh_w_aI) rfl hK hP_168 hD_169 hS_167 hA (fun _ => rfl) (by decide) (by decide) (by decide) (Nat.le_of_ble_eq_true rfl) (Nat.le_of_ble_eq_true rfl) di_Model_115 (fun q14 cA H_170 hK1 hP_171 hD_172 hS_173 => ?_)
  clear hP_168 hD_169 hS_167
  obtain rfl := dh_ta1 hK1
  clear hK1
  have hPj : va_P D vwCl ([(h0, .inr (11, [.ref q1, .ref q2, .ref q3, .ref q4, .ref q5, .ref q6, .ref q7, .int 0, .int 0, .ref q8, .int 0, .int 0, .int 0, .int 0, .int 0, .int 0, .int 0, .int 0, .int 0, .ref q9, .ref q10, .ref q11, .ref q12, .ref q13, .null, .null, .null, .null, .null, .null, .null, .null, .null, .null, .null, .int 0, .null, .null, .null, .null, .null, .null, .null, .int 0, .int 0, .int 0, .int 0, .int 0, .int 0, .int 0, .null, .int 0, .int 0, .int 0, .int 0, .int 0, .null, .int 0]))] ++ (T_13 ++ [(q14, .inl (ta 1, (8, .inl (fun _ => 0))))])) H_170 := by rw [← List.append_assoc]; exact hP_171
  have hDj : va_D A ([(h0, .inr (11, [.ref q1, .ref q2, .ref q3, .ref q4, .ref q5, .ref q6, .ref q7, .int 0, .int 0, .ref q8, .int 0, .int 0, .int 0, .int 0, .int 0, .int 0, .int 0, .int 0, .int 0, .ref q9, .ref q10, .ref q11, .ref q12, .ref q13, .null, .null, .null, .null, .null, .null, .null, .null, .null, .null, .null, .int 0, .null, .null, .null, .null, .null, .null, .null, .int 0, .int 0, .int 0, .int 0, .int 0, .int 0, .int 0, .null, .int 0, .int 0, .int 0, .int 0, .int 0, .null, .int 0]))] ++ (T_13 ++ [(q14, .inl (ta 1, (8, .inl (fun _ => 0))))])) := by rw [← List.append_assoc]; exact hD_172
  clear hP_171 hD_172
  obtain ⟨T_14, eT_14⟩ : ∃ z, z = T_13 ++ [(q14, .inl (ta 1, (8, .inl (fun _ => 0))))] := ⟨_, rfl⟩
  rw [← eT_14] at hPj hDj
  have hP_174 := hPj
  have hD_175 := hDj
  clear hPj hDj
  refine W.widen (k := 14) (n := 14646) (Nat.le_of_ble_eq_true rfl) (Nat.le_of_ble_eq_true rfl) ?_
  refine va_putF (D := D) (ci := 11) (v := .ref q14) (ty := .array .int) (C := RX11) (T := TX11) (N := 58) hx hb hts dh_u11 tyX11 tyX11_ok nmX11 hown hK hP_174 hD_175 hS_173 0 rfl rfl 24 (by decide) (hts (.fieldLink RX11 51 RX11 "saidTo" "[I") (dh_has_in (i := 1135) (by decide +kernel))) (fun _ h9 => h9) rfl hin rfl (by decide +kernel) rfl rfl (Nat.le_of_ble_eq_true rfl) di_Model_117 (fun H_176 locs_177 hP_178 hD_179 hS_180 => ?_)
  clear hP_174 hD_175 hS_173
  have hP_181 : va_P D vwCl ([(h0, .inr (11, [.ref q1, .ref q2, .ref q3, .ref q4, .ref q5, .ref q6, .ref q7, .int 0, .int 0, .ref q8, .int 0, .int 0, .int 0, .int 0, .int 0, .int 0, .int 0, .int 0, .int 0, .ref q9, .ref q10, .ref q11, .ref q12, .ref q13, .ref q14, .null, .null, .null, .null, .null, .null, .null, .null, .null, .null, .int 0, .null, .null, .null, .null, .null, .null, .null, .int 0, .int 0, .int 0, .int 0, .int 0, .int 0, .int 0, .null, .int 0, .int 0, .int 0, .int 0, .int 0, .null, .int 0]))] ++ T_14) H_176 := hP_178
  clear hP_178
  have hD_182 : va_D A ([(h0, .inr (11, [.ref q1, .ref q2, .ref q3, .ref q4, .ref q5, .ref q6, .ref q7, .int 0, .int 0, .ref q8, .int 0, .int 0, .int 0, .int 0, .int 0, .int 0, .int 0, .int 0, .int 0, .ref q9, .ref q10, .ref q11, .ref q12, .ref q13, .ref q14, .null, .null, .null, .null, .null, .null, .null, .null, .null, .null, .int 0, .null, .null, .null, .null, .null, .null, .null, .int 0, .int 0, .int 0, .int 0, .int 0, .int 0, .int 0, .null, .int 0, .int 0, .int 0, .int 0, .int 0, .null, .int 0]))] ++ T_14) := hD_179
  clear hD_179
  refine lv_aload_n hx hb di_Model_120 rfl (lv_at hl 0 rfl) ?_
  refine lv_sipush (v := 260) hx hb di_Model_121 (by decide) ?_
  refine va_newa (atype := .int) (a0 := (260, .inl (fun _ => 0))) hx hb (hts _ dh_w_aI) rfl hK hP_181 hD_182 hS_180 hA (fun _ => rfl) (by decide) (by decide) (by decide) (Nat.le_of_ble_eq_true rfl) (Nat.le_of_ble_eq_true rfl) di_Model_124 (fun q15 cA H_183 hK1 hP_184 hD_185 hS_186 => ?_)
  clear hP_181 hD_182 hS_180
  obtain rfl := dh_ta1 hK1
  clear hK1
  have hPj : va_P D vwCl ([(h0, .inr (11, [.ref q1, .ref q2, .ref q3, .ref q4, .ref q5, .ref q6, .ref q7, .int 0, .int 0, .ref q8, .int 0, .int 0, .int 0, .int 0, .int 0, .int 0, .int 0, .int 0, .int 0, .ref q9, .ref q10, .ref q11, .ref q12, .ref q13, .ref q14, .null, .null, .null, .null, .null, .null, .null, .null, .null, .null, .int 0, .null, .null, .null, .null, .null, .null, .null, .int 0, .int 0, .int 0, .int 0, .int 0, .int 0, .int 0, .null, .int 0, .int 0, .int 0, .int 0, .int 0, .null, .int 0]))] ++ (T_14 ++ [(q15, .inl (ta 1, (260, .inl (fun _ => 0))))])) H_183 := by rw [← List.append_assoc]; exact hP_184
  have hDj : va_D A ([(h0, .inr (11, [.ref q1, .ref q2, .ref q3, .ref q4, .ref q5, .ref q6, .ref q7, .int 0, .int 0, .ref q8, .int 0, .int 0, .int 0, .int 0, .int 0, .int 0, .int 0, .int 0, .int 0, .ref q9, .ref q10, .ref q11, .ref q12, .ref q13, .ref q14, .null, .null, .null, .null, .null, .null, .null, .null, .null, .null, .int 0, .null, .null, .null, .null, .null, .null, .null, .int 0, .int 0, .int 0, .int 0, .int 0, .int 0, .int 0, .null, .int 0, .int 0, .int 0, .int 0, .int 0, .null, .int 0]))] ++ (T_14 ++ [(q15, .inl (ta 1, (260, .inl (fun _ => 0))))])) := by rw [← List.append_assoc]; exact hD_185
  clear hP_184 hD_185
  obtain ⟨T_15, eT_15⟩ : ∃ z, z = T_14 ++ [(q15, .inl (ta 1, (260, .inl (fun _ => 0))))] := ⟨_, rfl⟩
  rw [← eT_15] at hPj hDj
  have hP_187 := hPj
  have hD_188 := hDj
  clear hPj hDj
  refine W.widen (k := 15) (n := 14906) (Nat.le_of_ble_eq_true rfl) (Nat.le_of_ble_eq_true rfl) ?_
  refine va_putF (D := D) (ci := 11) (v := .ref q15) (ty := .array .int) (C := RX11) (T := TX11) (N := 58) hx hb hts dh_u11 tyX11 tyX11_ok nmX11 hown hK hP_187 hD_188 hS_186 0 rfl rfl 25 (by decide) (hts (.fieldLink RX11 54 RX11 "stack" "[I") (dh_has_in (i := 1136) (by decide +kernel))) (fun _ h9 => h9) rfl hin rfl (by decide +kernel) rfl rfl (Nat.le_of_ble_eq_true rfl) di_Model_126 (fun H_189 locs_190 hP_191 hD_192 hS_193 => ?_)
  clear hP_187 hD_188 hS_186
  have hP_194 : va_P D vwCl ([(h0, .inr (11, [.ref q1, .ref q2, .ref q3, .ref q4, .ref q5, .ref q6, .ref q7, .int 0, .int 0, .ref q8, .int 0, .int 0, .int 0, .int 0, .int 0, .int 0, .int 0, .int 0, .int 0, .ref q9, .ref q10, .ref q11, .ref q12, .ref q13, .ref q14, .ref q15, .null, .null, .null, .null, .null, .null, .null, .null, .null, .int 0, .null, .null, .null, .null, .null, .null, .null, .int 0, .int 0, .int 0, .int 0, .int 0, .int 0, .int 0, .null, .int 0, .int 0, .int 0, .int 0, .int 0, .null, .int 0]))] ++ T_15) H_189 := hP_191
  clear hP_191
  have hD_195 : va_D A ([(h0, .inr (11, [.ref q1, .ref q2, .ref q3, .ref q4, .ref q5, .ref q6, .ref q7, .int 0, .int 0, .ref q8, .int 0, .int 0, .int 0, .int 0, .int 0, .int 0, .int 0, .int 0, .int 0, .ref q9, .ref q10, .ref q11, .ref q12, .ref q13, .ref q14, .ref q15, .null, .null, .null, .null, .null, .null, .null, .null, .null, .int 0, .null, .null, .null, .null, .null, .null, .null, .int 0, .int 0, .int 0, .int 0, .int 0, .int 0, .int 0, .null, .int 0, .int 0, .int 0, .int 0, .int 0, .null, .int 0]))] ++ T_15) := hD_192
  clear hD_192
  refine lv_aload_n hx hb di_Model_129 rfl (lv_at hl 0 rfl) ?_
  refine lv_iconst (v := 3) hx hb di_Model_130 (by decide) ?_
  refine va_newa (atype := .int) (a0 := (3, .inl (fun _ => 0))) hx hb (hts _ dh_w_aI) rfl hK hP_194 hD_195 hS_193 hA (fun _ => rfl) (by decide) (by decide) (by decide) (Nat.le_of_ble_eq_true rfl) (Nat.le_of_ble_eq_true rfl) di_Model_131 (fun q16 cA H_196 hK1 hP_197 hD_198 hS_199 => ?_)
  clear hP_194 hD_195 hS_193
  obtain rfl := dh_ta1 hK1
  clear hK1
  have hPj : va_P D vwCl ([(h0, .inr (11, [.ref q1, .ref q2, .ref q3, .ref q4, .ref q5, .ref q6, .ref q7, .int 0, .int 0, .ref q8, .int 0, .int 0, .int 0, .int 0, .int 0, .int 0, .int 0, .int 0, .int 0, .ref q9, .ref q10, .ref q11, .ref q12, .ref q13, .ref q14, .ref q15, .null, .null, .null, .null, .null, .null, .null, .null, .null, .int 0, .null, .null, .null, .null, .null, .null, .null, .int 0, .int 0, .int 0, .int 0, .int 0, .int 0, .int 0, .null, .int 0, .int 0, .int 0, .int 0, .int 0, .null, .int 0]))] ++ (T_15 ++ [(q16, .inl (ta 1, (3, .inl (fun _ => 0))))])) H_196 := by rw [← List.append_assoc]; exact hP_197
  have hDj : va_D A ([(h0, .inr (11, [.ref q1, .ref q2, .ref q3, .ref q4, .ref q5, .ref q6, .ref q7, .int 0, .int 0, .ref q8, .int 0, .int 0, .int 0, .int 0, .int 0, .int 0, .int 0, .int 0, .int 0, .ref q9, .ref q10, .ref q11, .ref q12, .ref q13, .ref q14, .ref q15, .null, .null, .null, .null, .null, .null, .null, .null, .null, .int 0, .null, .null, .null, .null, .null, .null, .null, .int 0, .int 0, .int 0, .int 0, .int 0, .int 0, .int 0, .null, .int 0, .int 0, .int 0, .int 0, .int 0, .null, .int 0]))] ++ (T_15 ++ [(q16, .inl (ta 1, (3, .inl (fun _ => 0))))])) := by rw [← List.append_assoc]; exact hD_198
  clear hP_197 hD_198
  obtain ⟨T_16, eT_16⟩ : ∃ z, z = T_15 ++ [(q16, .inl (ta 1, (3, .inl (fun _ => 0))))] := ⟨_, rfl⟩
  rw [← eT_16] at hPj hDj
  have hP_200 := hPj
  have hD_201 := hDj
  clear hPj hDj
  refine W.widen (k := 16) (n := 14909) (Nat.le_of_ble_eq_true rfl) (Nat.le_of_ble_eq_true rfl) ?_
  refine va_putF (D := D) (ci := 11) (v := .ref q16) (ty := .array .int) (C := RX11) (T := TX11) (N := 58) hx hb hts dh_u11 tyX11 tyX11_ok nmX11 hown hK hP_200 hD_201 hS_199 0 rfl rfl 26 (by decide) (hts (.fieldLink RX11 57 RX11 "facts" "[I") (dh_has_in (i := 1137) (by decide +kernel))) (fun _ h9 => h9) rfl hin rfl (by decide +kernel) rfl rfl (Nat.le_of_ble_eq_true rfl) di_Model_133 (fun H_202 locs_203 hP_204 hD_205 hS_206 => ?_)
  clear hP_200 hD_201 hS_199
  have hP_207 : va_P D vwCl ([(h0, .inr (11, [.ref q1, .ref q2, .ref q3, .ref q4, .ref q5, .ref q6, .ref q7, .int 0, .int 0, .ref q8, .int 0, .int 0, .int 0, .int 0, .int 0, .int 0, .int 0, .int 0, .int 0, .ref q9, .ref q10, .ref q11, .ref q12, .ref q13, .ref q14, .ref q15, .ref q16, .null, .null, .null, .null, .null, .null, .null, .null, .int 0, .null, .null, .null, .null, .null, .null, .null, .int 0, .int 0, .int 0, .int 0, .int 0, .int 0, .int 0, .null, .int 0, .int 0, .int 0, .int 0, .int 0, .null, .int 0]))] ++ T_16) H_202 := hP_204
  clear hP_204
  have hD_208 : va_D A ([(h0, .inr (11, [.ref q1, .ref q2, .ref q3, .ref q4, .ref q5, .ref q6, .ref q7, .int 0, .int 0, .ref q8, .int 0, .int 0, .int 0, .int 0, .int 0, .int 0, .int 0, .int 0, .int 0, .ref q9, .ref q10, .ref q11, .ref q12, .ref q13, .ref q14, .ref q15, .ref q16, .null, .null, .null, .null, .null, .null, .null, .null, .int 0, .null, .null, .null, .null, .null, .null, .null, .int 0, .int 0, .int 0, .int 0, .int 0, .int 0, .int 0, .null, .int 0, .int 0, .int 0, .int 0, .int 0, .null, .int 0]))] ++ T_16) := hD_205
  clear hD_205
  refine lv_aload_n hx hb di_Model_136 rfl (lv_at hl 0 rfl) ?_
  refine lv_bipush (v := 40) hx hb di_Model_137 (by decide) ?_
  refine va_newa (atype := .int) (a0 := (40, .inl (fun _ => 0))) hx hb (hts _ dh_w_aI) rfl hK hP_207 hD_208 hS_206 hA (fun _ => rfl) (by decide) (by decide) (by decide) (Nat.le_of_ble_eq_true rfl) (Nat.le_of_ble_eq_true rfl) di_Model_139 (fun q17 cA H_209 hK1 hP_210 hD_211 hS_212 => ?_)
  clear hP_207 hD_208 hS_206
  obtain rfl := dh_ta1 hK1
  clear hK1
  have hPj : va_P D vwCl ([(h0, .inr (11, [.ref q1, .ref q2, .ref q3, .ref q4, .ref q5, .ref q6, .ref q7, .int 0, .int 0, .ref q8, .int 0, .int 0, .int 0, .int 0, .int 0, .int 0, .int 0, .int 0, .int 0, .ref q9, .ref q10, .ref q11, .ref q12, .ref q13, .ref q14, .ref q15, .ref q16, .null, .null, .null, .null, .null, .null, .null, .null, .int 0, .null, .null, .null, .null, .null, .null, .null, .int 0, .int 0, .int 0, .int 0, .int 0, .int 0, .int 0, .null, .int 0, .int 0, .int 0, .int 0, .int 0, .null, .int 0]))] ++ (T_16 ++ [(q17, .inl (ta 1, (40, .inl (fun _ => 0))))])) H_209 := by rw [← List.append_assoc]; exact hP_210
  have hDj : va_D A ([(h0, .inr (11, [.ref q1, .ref q2, .ref q3, .ref q4, .ref q5, .ref q6, .ref q7, .int 0, .int 0, .ref q8, .int 0, .int 0, .int 0, .int 0, .int 0, .int 0, .int 0, .int 0, .int 0, .ref q9, .ref q10, .ref q11, .ref q12, .ref q13, .ref q14, .ref q15, .ref q16, .null, .null, .null, .null, .null, .null, .null, .null, .int 0, .null, .null, .null, .null, .null, .null, .null, .int 0, .int 0, .int 0, .int 0, .int 0, .int 0, .int 0, .null, .int 0, .int 0, .int 0, .int 0, .int 0, .null, .int 0]))] ++ (T_16 ++ [(q17, .inl (ta 1, (40, .inl (fun _ => 0))))])) := by rw [← List.append_assoc]; exact hD_211
  clear hP_210 hD_211
  obtain ⟨T_17, eT_17⟩ : ∃ z, z = T_16 ++ [(q17, .inl (ta 1, (40, .inl (fun _ => 0))))] := ⟨_, rfl⟩
  rw [← eT_17] at hPj hDj
  have hP_213 := hPj
  have hD_214 := hDj
  clear hPj hDj
  refine W.widen (k := 17) (n := 14949) (Nat.le_of_ble_eq_true rfl) (Nat.le_of_ble_eq_true rfl) ?_
  refine va_putF (D := D) (ci := 11) (v := .ref q17) (ty := .array .int) (C := RX11) (T := TX11) (N := 58) hx hb hts dh_u11 tyX11 tyX11_ok nmX11 hown hK hP_213 hD_214 hS_212 0 rfl rfl 27 (by decide) (hts (.fieldLink RX11 60 RX11 "newTake" "[I") (dh_has_in (i := 1138) (by decide +kernel))) (fun _ h9 => h9) rfl hin rfl (by decide +kernel) rfl rfl (Nat.le_of_ble_eq_true rfl) di_Model_141 (fun H_215 locs_216 hP_217 hD_218 hS_219 => ?_)
  clear hP_213 hD_214 hS_212
  have hP_220 : va_P D vwCl ([(h0, .inr (11, [.ref q1, .ref q2, .ref q3, .ref q4, .ref q5, .ref q6, .ref q7, .int 0, .int 0, .ref q8, .int 0, .int 0, .int 0, .int 0, .int 0, .int 0, .int 0, .int 0, .int 0, .ref q9, .ref q10, .ref q11, .ref q12, .ref q13, .ref q14, .ref q15, .ref q16, .ref q17, .null, .null, .null, .null, .null, .null, .null, .int 0, .null, .null, .null, .null, .null, .null, .null, .int 0, .int 0, .int 0, .int 0, .int 0, .int 0, .int 0, .null, .int 0, .int 0, .int 0, .int 0, .int 0, .null, .int 0]))] ++ T_17) H_215 := hP_217
  clear hP_217
  have hD_221 : va_D A ([(h0, .inr (11, [.ref q1, .ref q2, .ref q3, .ref q4, .ref q5, .ref q6, .ref q7, .int 0, .int 0, .ref q8, .int 0, .int 0, .int 0, .int 0, .int 0, .int 0, .int 0, .int 0, .int 0, .ref q9, .ref q10, .ref q11, .ref q12, .ref q13, .ref q14, .ref q15, .ref q16, .ref q17, .null, .null, .null, .null, .null, .null, .null, .int 0, .null, .null, .null, .null, .null, .null, .null, .int 0, .int 0, .int 0, .int 0, .int 0, .int 0, .int 0, .null, .int 0, .int 0, .int 0, .int 0, .int 0, .null, .int 0]))] ++ T_17) := hD_218
  clear hD_218
  refine lv_aload_n hx hb di_Model_144 rfl (lv_at hl 0 rfl) ?_
  refine lv_sipush (v := 1681) hx hb di_Model_145 (by decide) ?_
  refine va_newa (atype := .int) (a0 := (1681, .inl (fun _ => 0))) hx hb (hts _ dh_w_aI) rfl hK hP_220 hD_221 hS_219 hA (fun _ => rfl) (by decide) (by decide) (by decide) (Nat.le_of_ble_eq_true rfl) (Nat.le_of_ble_eq_true rfl) di_Model_148 (fun q18 cA H_222 hK1 hP_223 hD_224 hS_225 => ?_)
  clear hP_220 hD_221 hS_219
  obtain rfl := dh_ta1 hK1
  clear hK1
  have hPj : va_P D vwCl ([(h0, .inr (11, [.ref q1, .ref q2, .ref q3, .ref q4, .ref q5, .ref q6, .ref q7, .int 0, .int 0, .ref q8, .int 0, .int 0, .int 0, .int 0, .int 0, .int 0, .int 0, .int 0, .int 0, .ref q9, .ref q10, .ref q11, .ref q12, .ref q13, .ref q14, .ref q15, .ref q16, .ref q17, .null, .null, .null, .null, .null, .null, .null, .int 0, .null, .null, .null, .null, .null, .null, .null, .int 0, .int 0, .int 0, .int 0, .int 0, .int 0, .int 0, .null, .int 0, .int 0, .int 0, .int 0, .int 0, .null, .int 0]))] ++ (T_17 ++ [(q18, .inl (ta 1, (1681, .inl (fun _ => 0))))])) H_222 := by rw [← List.append_assoc]; exact hP_223
  have hDj : va_D A ([(h0, .inr (11, [.ref q1, .ref q2, .ref q3, .ref q4, .ref q5, .ref q6, .ref q7, .int 0, .int 0, .ref q8, .int 0, .int 0, .int 0, .int 0, .int 0, .int 0, .int 0, .int 0, .int 0, .ref q9, .ref q10, .ref q11, .ref q12, .ref q13, .ref q14, .ref q15, .ref q16, .ref q17, .null, .null, .null, .null, .null, .null, .null, .int 0, .null, .null, .null, .null, .null, .null, .null, .int 0, .int 0, .int 0, .int 0, .int 0, .int 0, .int 0, .null, .int 0, .int 0, .int 0, .int 0, .int 0, .null, .int 0]))] ++ (T_17 ++ [(q18, .inl (ta 1, (1681, .inl (fun _ => 0))))])) := by rw [← List.append_assoc]; exact hD_224
  clear hP_223 hD_224
  obtain ⟨T_18, eT_18⟩ : ∃ z, z = T_17 ++ [(q18, .inl (ta 1, (1681, .inl (fun _ => 0))))] := ⟨_, rfl⟩
  rw [← eT_18] at hPj hDj
  have hP_226 := hPj
  have hD_227 := hDj
  clear hPj hDj
  refine W.widen (k := 18) (n := 16630) (Nat.le_of_ble_eq_true rfl) (Nat.le_of_ble_eq_true rfl) ?_
  refine va_putF (D := D) (ci := 11) (v := .ref q18) (ty := .array .int) (C := RX11) (T := TX11) (N := 58) hx hb hts dh_u11 tyX11 tyX11_ok nmX11 hown hK hP_226 hD_227 hS_225 0 rfl rfl 28 (by decide) (hts (.fieldLink RX11 63 RX11 "lengthOf" "[I") (dh_has_in (i := 1139) (by decide +kernel))) (fun _ h9 => h9) rfl hin rfl (by decide +kernel) rfl rfl (Nat.le_of_ble_eq_true rfl) di_Model_150 (fun H_228 locs_229 hP_230 hD_231 hS_232 => ?_)
  clear hP_226 hD_227 hS_225
  have hP_233 : va_P D vwCl ([(h0, .inr (11, [.ref q1, .ref q2, .ref q3, .ref q4, .ref q5, .ref q6, .ref q7, .int 0, .int 0, .ref q8, .int 0, .int 0, .int 0, .int 0, .int 0, .int 0, .int 0, .int 0, .int 0, .ref q9, .ref q10, .ref q11, .ref q12, .ref q13, .ref q14, .ref q15, .ref q16, .ref q17, .ref q18, .null, .null, .null, .null, .null, .null, .int 0, .null, .null, .null, .null, .null, .null, .null, .int 0, .int 0, .int 0, .int 0, .int 0, .int 0, .int 0, .null, .int 0, .int 0, .int 0, .int 0, .int 0, .null, .int 0]))] ++ T_18) H_228 := hP_230
  clear hP_230
  have hD_234 : va_D A ([(h0, .inr (11, [.ref q1, .ref q2, .ref q3, .ref q4, .ref q5, .ref q6, .ref q7, .int 0, .int 0, .ref q8, .int 0, .int 0, .int 0, .int 0, .int 0, .int 0, .int 0, .int 0, .int 0, .ref q9, .ref q10, .ref q11, .ref q12, .ref q13, .ref q14, .ref q15, .ref q16, .ref q17, .ref q18, .null, .null, .null, .null, .null, .null, .int 0, .null, .null, .null, .null, .null, .null, .null, .int 0, .int 0, .int 0, .int 0, .int 0, .int 0, .int 0, .null, .int 0, .int 0, .int 0, .int 0, .int 0, .null, .int 0]))] ++ T_18) := hD_231
  clear hD_231
  refine lv_aload_n hx hb di_Model_153 rfl (lv_at hl 0 rfl) ?_
  refine lv_sipush (v := 1681) hx hb di_Model_154 (by decide) ?_
  refine va_newa (atype := .int) (a0 := (1681, .inl (fun _ => 0))) hx hb (hts _ dh_w_aI) rfl hK hP_233 hD_234 hS_232 hA (fun _ => rfl) (by decide) (by decide) (by decide) (Nat.le_of_ble_eq_true rfl) (Nat.le_of_ble_eq_true rfl) di_Model_157 (fun q19 cA H_235 hK1 hP_236 hD_237 hS_238 => ?_)
  clear hP_233 hD_234 hS_232
  obtain rfl := dh_ta1 hK1
  clear hK1
  have hPj : va_P D vwCl ([(h0, .inr (11, [.ref q1, .ref q2, .ref q3, .ref q4, .ref q5, .ref q6, .ref q7, .int 0, .int 0, .ref q8, .int 0, .int 0, .int 0, .int 0, .int 0, .int 0, .int 0, .int 0, .int 0, .ref q9, .ref q10, .ref q11, .ref q12, .ref q13, .ref q14, .ref q15, .ref q16, .ref q17, .ref q18, .null, .null, .null, .null, .null, .null, .int 0, .null, .null, .null, .null, .null, .null, .null, .int 0, .int 0, .int 0, .int 0, .int 0, .int 0, .int 0, .null, .int 0, .int 0, .int 0, .int 0, .int 0, .null, .int 0]))] ++ (T_18 ++ [(q19, .inl (ta 1, (1681, .inl (fun _ => 0))))])) H_235 := by rw [← List.append_assoc]; exact hP_236
  have hDj : va_D A ([(h0, .inr (11, [.ref q1, .ref q2, .ref q3, .ref q4, .ref q5, .ref q6, .ref q7, .int 0, .int 0, .ref q8, .int 0, .int 0, .int 0, .int 0, .int 0, .int 0, .int 0, .int 0, .int 0, .ref q9, .ref q10, .ref q11, .ref q12, .ref q13, .ref q14, .ref q15, .ref q16, .ref q17, .ref q18, .null, .null, .null, .null, .null, .null, .int 0, .null, .null, .null, .null, .null, .null, .null, .int 0, .int 0, .int 0, .int 0, .int 0, .int 0, .int 0, .null, .int 0, .int 0, .int 0, .int 0, .int 0, .null, .int 0]))] ++ (T_18 ++ [(q19, .inl (ta 1, (1681, .inl (fun _ => 0))))])) := by rw [← List.append_assoc]; exact hD_237
  clear hP_236 hD_237
  obtain ⟨T_19, eT_19⟩ : ∃ z, z = T_18 ++ [(q19, .inl (ta 1, (1681, .inl (fun _ => 0))))] := ⟨_, rfl⟩
  rw [← eT_19] at hPj hDj
  have hP_239 := hPj
  have hD_240 := hDj
  clear hPj hDj
  refine W.widen (k := 19) (n := 18311) (Nat.le_of_ble_eq_true rfl) (Nat.le_of_ble_eq_true rfl) ?_
  refine va_putF (D := D) (ci := 11) (v := .ref q19) (ty := .array .int) (C := RX11) (T := TX11) (N := 58) hx hb hts dh_u11 tyX11 tyX11_ok nmX11 hown hK hP_239 hD_240 hS_238 0 rfl rfl 29 (by decide) (hts (.fieldLink RX11 66 RX11 "fewOf" "[I") (dh_has_in (i := 1140) (by decide +kernel))) (fun _ h9 => h9) rfl hin rfl (by decide +kernel) rfl rfl (Nat.le_of_ble_eq_true rfl) di_Model_159 (fun H_241 locs_242 hP_243 hD_244 hS_245 => ?_)
  clear hP_239 hD_240 hS_238
  have hP_246 : va_P D vwCl ([(h0, .inr (11, [.ref q1, .ref q2, .ref q3, .ref q4, .ref q5, .ref q6, .ref q7, .int 0, .int 0, .ref q8, .int 0, .int 0, .int 0, .int 0, .int 0, .int 0, .int 0, .int 0, .int 0, .ref q9, .ref q10, .ref q11, .ref q12, .ref q13, .ref q14, .ref q15, .ref q16, .ref q17, .ref q18, .ref q19, .null, .null, .null, .null, .null, .int 0, .null, .null, .null, .null, .null, .null, .null, .int 0, .int 0, .int 0, .int 0, .int 0, .int 0, .int 0, .null, .int 0, .int 0, .int 0, .int 0, .int 0, .null, .int 0]))] ++ T_19) H_241 := hP_243
  clear hP_243
  have hD_247 : va_D A ([(h0, .inr (11, [.ref q1, .ref q2, .ref q3, .ref q4, .ref q5, .ref q6, .ref q7, .int 0, .int 0, .ref q8, .int 0, .int 0, .int 0, .int 0, .int 0, .int 0, .int 0, .int 0, .int 0, .ref q9, .ref q10, .ref q11, .ref q12, .ref q13, .ref q14, .ref q15, .ref q16, .ref q17, .ref q18, .ref q19, .null, .null, .null, .null, .null, .int 0, .null, .null, .null, .null, .null, .null, .null, .int 0, .int 0, .int 0, .int 0, .int 0, .int 0, .int 0, .null, .int 0, .int 0, .int 0, .int 0, .int 0, .null, .int 0]))] ++ T_19) := hD_244
  clear hD_244
  refine lv_aload_n hx hb di_Model_162 rfl (lv_at hl 0 rfl) ?_
  refine lv_sipush (v := 1681) hx hb di_Model_163 (by decide) ?_
  refine va_newa (atype := .int) (a0 := (1681, .inl (fun _ => 0))) hx hb (hts _ dh_w_aI) rfl hK hP_246 hD_247 hS_245 hA (fun _ => rfl) (by decide) (by decide) (by decide) (Nat.le_of_ble_eq_true rfl) (Nat.le_of_ble_eq_true rfl) di_Model_166 (fun q20 cA H_248 hK1 hP_249 hD_250 hS_251 => ?_)
  clear hP_246 hD_247 hS_245
  obtain rfl := dh_ta1 hK1
  clear hK1
  have hPj : va_P D vwCl ([(h0, .inr (11, [.ref q1, .ref q2, .ref q3, .ref q4, .ref q5, .ref q6, .ref q7, .int 0, .int 0, .ref q8, .int 0, .int 0, .int 0, .int 0, .int 0, .int 0, .int 0, .int 0, .int 0, .ref q9, .ref q10, .ref q11, .ref q12, .ref q13, .ref q14, .ref q15, .ref q16, .ref q17, .ref q18, .ref q19, .null, .null, .null, .null, .null, .int 0, .null, .null, .null, .null, .null, .null, .null, .int 0, .int 0, .int 0, .int 0, .int 0, .int 0, .int 0, .null, .int 0, .int 0, .int 0, .int 0, .int 0, .null, .int 0]))] ++ (T_19 ++ [(q20, .inl (ta 1, (1681, .inl (fun _ => 0))))])) H_248 := by rw [← List.append_assoc]; exact hP_249
  have hDj : va_D A ([(h0, .inr (11, [.ref q1, .ref q2, .ref q3, .ref q4, .ref q5, .ref q6, .ref q7, .int 0, .int 0, .ref q8, .int 0, .int 0, .int 0, .int 0, .int 0, .int 0, .int 0, .int 0, .int 0, .ref q9, .ref q10, .ref q11, .ref q12, .ref q13, .ref q14, .ref q15, .ref q16, .ref q17, .ref q18, .ref q19, .null, .null, .null, .null, .null, .int 0, .null, .null, .null, .null, .null, .null, .null, .int 0, .int 0, .int 0, .int 0, .int 0, .int 0, .int 0, .null, .int 0, .int 0, .int 0, .int 0, .int 0, .null, .int 0]))] ++ (T_19 ++ [(q20, .inl (ta 1, (1681, .inl (fun _ => 0))))])) := by rw [← List.append_assoc]; exact hD_250
  clear hP_249 hD_250
  obtain ⟨T_20, eT_20⟩ : ∃ z, z = T_19 ++ [(q20, .inl (ta 1, (1681, .inl (fun _ => 0))))] := ⟨_, rfl⟩
  rw [← eT_20] at hPj hDj
  have hP_252 := hPj
  have hD_253 := hDj
  clear hPj hDj
  refine W.widen (k := 20) (n := 19992) (Nat.le_of_ble_eq_true rfl) (Nat.le_of_ble_eq_true rfl) ?_
  refine va_putF (D := D) (ci := 11) (v := .ref q20) (ty := .array .int) (C := RX11) (T := TX11) (N := 58) hx hb hts dh_u11 tyX11 tyX11_ok nmX11 hown hK hP_252 hD_253 hS_251 0 rfl rfl 30 (by decide) (hts (.fieldLink RX11 69 RX11 "manyOf" "[I") (dh_has_in (i := 1141) (by decide +kernel))) (fun _ h9 => h9) rfl hin rfl (by decide +kernel) rfl rfl (Nat.le_of_ble_eq_true rfl) di_Model_168 (fun H_254 locs_255 hP_256 hD_257 hS_258 => ?_)
  clear hP_252 hD_253 hS_251
  have hP_259 : va_P D vwCl ([(h0, .inr (11, [.ref q1, .ref q2, .ref q3, .ref q4, .ref q5, .ref q6, .ref q7, .int 0, .int 0, .ref q8, .int 0, .int 0, .int 0, .int 0, .int 0, .int 0, .int 0, .int 0, .int 0, .ref q9, .ref q10, .ref q11, .ref q12, .ref q13, .ref q14, .ref q15, .ref q16, .ref q17, .ref q18, .ref q19, .ref q20, .null, .null, .null, .null, .int 0, .null, .null, .null, .null, .null, .null, .null, .int 0, .int 0, .int 0, .int 0, .int 0, .int 0, .int 0, .null, .int 0, .int 0, .int 0, .int 0, .int 0, .null, .int 0]))] ++ T_20) H_254 := hP_256
  clear hP_256
  have hD_260 : va_D A ([(h0, .inr (11, [.ref q1, .ref q2, .ref q3, .ref q4, .ref q5, .ref q6, .ref q7, .int 0, .int 0, .ref q8, .int 0, .int 0, .int 0, .int 0, .int 0, .int 0, .int 0, .int 0, .int 0, .ref q9, .ref q10, .ref q11, .ref q12, .ref q13, .ref q14, .ref q15, .ref q16, .ref q17, .ref q18, .ref q19, .ref q20, .null, .null, .null, .null, .int 0, .null, .null, .null, .null, .null, .null, .null, .int 0, .int 0, .int 0, .int 0, .int 0, .int 0, .int 0, .null, .int 0, .int 0, .int 0, .int 0, .int 0, .null, .int 0]))] ++ T_20) := hD_257
  clear hD_257
  refine lv_aload_n hx hb di_Model_171 rfl (lv_at hl 0 rfl) ?_
  refine lv_sipush (v := 1681) hx hb di_Model_172 (by decide) ?_
  refine va_newa (atype := .long) (a0 := (1681, .inr (.inl (fun _ => 0)))) hx hb (hts _ dh_w_aJ) rfl hK hP_259 hD_260 hS_258 hA (fun _ => rfl) (by decide) (by decide) (by decide) (Nat.le_of_ble_eq_true rfl) (Nat.le_of_ble_eq_true rfl) di_Model_175 (fun q21 cA H_261 hK1 hP_262 hD_263 hS_264 => ?_)
  clear hP_259 hD_260 hS_258
  obtain rfl := dh_ta2 hK1
  clear hK1
  have hPj : va_P D vwCl ([(h0, .inr (11, [.ref q1, .ref q2, .ref q3, .ref q4, .ref q5, .ref q6, .ref q7, .int 0, .int 0, .ref q8, .int 0, .int 0, .int 0, .int 0, .int 0, .int 0, .int 0, .int 0, .int 0, .ref q9, .ref q10, .ref q11, .ref q12, .ref q13, .ref q14, .ref q15, .ref q16, .ref q17, .ref q18, .ref q19, .ref q20, .null, .null, .null, .null, .int 0, .null, .null, .null, .null, .null, .null, .null, .int 0, .int 0, .int 0, .int 0, .int 0, .int 0, .int 0, .null, .int 0, .int 0, .int 0, .int 0, .int 0, .null, .int 0]))] ++ (T_20 ++ [(q21, .inl (ta 2, (1681, .inr (.inl (fun _ => 0)))))])) H_261 := by rw [← List.append_assoc]; exact hP_262
  have hDj : va_D A ([(h0, .inr (11, [.ref q1, .ref q2, .ref q3, .ref q4, .ref q5, .ref q6, .ref q7, .int 0, .int 0, .ref q8, .int 0, .int 0, .int 0, .int 0, .int 0, .int 0, .int 0, .int 0, .int 0, .ref q9, .ref q10, .ref q11, .ref q12, .ref q13, .ref q14, .ref q15, .ref q16, .ref q17, .ref q18, .ref q19, .ref q20, .null, .null, .null, .null, .int 0, .null, .null, .null, .null, .null, .null, .null, .int 0, .int 0, .int 0, .int 0, .int 0, .int 0, .int 0, .null, .int 0, .int 0, .int 0, .int 0, .int 0, .null, .int 0]))] ++ (T_20 ++ [(q21, .inl (ta 2, (1681, .inr (.inl (fun _ => 0)))))])) := by rw [← List.append_assoc]; exact hD_263
  clear hP_262 hD_263
  obtain ⟨T_21, eT_21⟩ : ∃ z, z = T_20 ++ [(q21, .inl (ta 2, (1681, .inr (.inl (fun _ => 0)))))] := ⟨_, rfl⟩
  rw [← eT_21] at hPj hDj
  have hP_265 := hPj
  have hD_266 := hDj
  clear hPj hDj
  refine W.widen (k := 21) (n := 21673) (Nat.le_of_ble_eq_true rfl) (Nat.le_of_ble_eq_true rfl) ?_
  refine va_putF (D := D) (ci := 11) (v := .ref q21) (ty := .array .long) (C := RX11) (T := TX11) (N := 58) hx hb hts dh_u11 tyX11 tyX11_ok nmX11 hown hK hP_265 hD_266 hS_264 0 rfl rfl 31 (by decide) (hts (.fieldLink RX11 72 RX11 "rowsOf" "[J") (dh_has_in (i := 1142) (by decide +kernel))) (fun _ h9 => h9) rfl hin rfl (by decide +kernel) rfl rfl (Nat.le_of_ble_eq_true rfl) di_Model_177 (fun H_267 locs_268 hP_269 hD_270 hS_271 => ?_)
  clear hP_265 hD_266 hS_264
  have hP_272 : va_P D vwCl ([(h0, .inr (11, [.ref q1, .ref q2, .ref q3, .ref q4, .ref q5, .ref q6, .ref q7, .int 0, .int 0, .ref q8, .int 0, .int 0, .int 0, .int 0, .int 0, .int 0, .int 0, .int 0, .int 0, .ref q9, .ref q10, .ref q11, .ref q12, .ref q13, .ref q14, .ref q15, .ref q16, .ref q17, .ref q18, .ref q19, .ref q20, .ref q21, .null, .null, .null, .int 0, .null, .null, .null, .null, .null, .null, .null, .int 0, .int 0, .int 0, .int 0, .int 0, .int 0, .int 0, .null, .int 0, .int 0, .int 0, .int 0, .int 0, .null, .int 0]))] ++ T_21) H_267 := hP_269
  clear hP_269
  have hD_273 : va_D A ([(h0, .inr (11, [.ref q1, .ref q2, .ref q3, .ref q4, .ref q5, .ref q6, .ref q7, .int 0, .int 0, .ref q8, .int 0, .int 0, .int 0, .int 0, .int 0, .int 0, .int 0, .int 0, .int 0, .ref q9, .ref q10, .ref q11, .ref q12, .ref q13, .ref q14, .ref q15, .ref q16, .ref q17, .ref q18, .ref q19, .ref q20, .ref q21, .null, .null, .null, .int 0, .null, .null, .null, .null, .null, .null, .null, .int 0, .int 0, .int 0, .int 0, .int 0, .int 0, .int 0, .null, .int 0, .int 0, .int 0, .int 0, .int 0, .null, .int 0]))] ++ T_21) := hD_270
  clear hD_270
  refine lv_aload_n hx hb di_Model_180 rfl (lv_at hl 0 rfl) ?_
  refine lv_sipush (v := 1681) hx hb di_Model_181 (by decide) ?_
  refine va_newa (atype := .long) (a0 := (1681, .inr (.inl (fun _ => 0)))) hx hb (hts _ dh_w_aJ) rfl hK hP_272 hD_273 hS_271 hA (fun _ => rfl) (by decide) (by decide) (by decide) (Nat.le_of_ble_eq_true rfl) (Nat.le_of_ble_eq_true rfl) di_Model_184 (fun q22 cA H_274 hK1 hP_275 hD_276 hS_277 => ?_)
  clear hP_272 hD_273 hS_271
  obtain rfl := dh_ta2 hK1
  clear hK1
  have hPj : va_P D vwCl ([(h0, .inr (11, [.ref q1, .ref q2, .ref q3, .ref q4, .ref q5, .ref q6, .ref q7, .int 0, .int 0, .ref q8, .int 0, .int 0, .int 0, .int 0, .int 0, .int 0, .int 0, .int 0, .int 0, .ref q9, .ref q10, .ref q11, .ref q12, .ref q13, .ref q14, .ref q15, .ref q16, .ref q17, .ref q18, .ref q19, .ref q20, .ref q21, .null, .null, .null, .int 0, .null, .null, .null, .null, .null, .null, .null, .int 0, .int 0, .int 0, .int 0, .int 0, .int 0, .int 0, .null, .int 0, .int 0, .int 0, .int 0, .int 0, .null, .int 0]))] ++ (T_21 ++ [(q22, .inl (ta 2, (1681, .inr (.inl (fun _ => 0)))))])) H_274 := by rw [← List.append_assoc]; exact hP_275
  have hDj : va_D A ([(h0, .inr (11, [.ref q1, .ref q2, .ref q3, .ref q4, .ref q5, .ref q6, .ref q7, .int 0, .int 0, .ref q8, .int 0, .int 0, .int 0, .int 0, .int 0, .int 0, .int 0, .int 0, .int 0, .ref q9, .ref q10, .ref q11, .ref q12, .ref q13, .ref q14, .ref q15, .ref q16, .ref q17, .ref q18, .ref q19, .ref q20, .ref q21, .null, .null, .null, .int 0, .null, .null, .null, .null, .null, .null, .null, .int 0, .int 0, .int 0, .int 0, .int 0, .int 0, .int 0, .null, .int 0, .int 0, .int 0, .int 0, .int 0, .null, .int 0]))] ++ (T_21 ++ [(q22, .inl (ta 2, (1681, .inr (.inl (fun _ => 0)))))])) := by rw [← List.append_assoc]; exact hD_276
  clear hP_275 hD_276
  obtain ⟨T_22, eT_22⟩ : ∃ z, z = T_21 ++ [(q22, .inl (ta 2, (1681, .inr (.inl (fun _ => 0)))))] := ⟨_, rfl⟩
  rw [← eT_22] at hPj hDj
  have hP_278 := hPj
  have hD_279 := hDj
  clear hPj hDj
  refine W.widen (k := 22) (n := 23354) (Nat.le_of_ble_eq_true rfl) (Nat.le_of_ble_eq_true rfl) ?_
  refine va_putF (D := D) (ci := 11) (v := .ref q22) (ty := .array .long) (C := RX11) (T := TX11) (N := 58) hx hb hts dh_u11 tyX11 tyX11_ok nmX11 hown hK hP_278 hD_279 hS_277 0 rfl rfl 32 (by decide) (hts (.fieldLink RX11 75 RX11 "wonOf" "[J") (dh_has_in (i := 1143) (by decide +kernel))) (fun _ h9 => h9) rfl hin rfl (by decide +kernel) rfl rfl (Nat.le_of_ble_eq_true rfl) di_Model_186 (fun H_280 locs_281 hP_282 hD_283 hS_284 => ?_)
  clear hP_278 hD_279 hS_277
  have hP_285 : va_P D vwCl ([(h0, .inr (11, [.ref q1, .ref q2, .ref q3, .ref q4, .ref q5, .ref q6, .ref q7, .int 0, .int 0, .ref q8, .int 0, .int 0, .int 0, .int 0, .int 0, .int 0, .int 0, .int 0, .int 0, .ref q9, .ref q10, .ref q11, .ref q12, .ref q13, .ref q14, .ref q15, .ref q16, .ref q17, .ref q18, .ref q19, .ref q20, .ref q21, .ref q22, .null, .null, .int 0, .null, .null, .null, .null, .null, .null, .null, .int 0, .int 0, .int 0, .int 0, .int 0, .int 0, .int 0, .null, .int 0, .int 0, .int 0, .int 0, .int 0, .null, .int 0]))] ++ T_22) H_280 := hP_282
  clear hP_282
  have hD_286 : va_D A ([(h0, .inr (11, [.ref q1, .ref q2, .ref q3, .ref q4, .ref q5, .ref q6, .ref q7, .int 0, .int 0, .ref q8, .int 0, .int 0, .int 0, .int 0, .int 0, .int 0, .int 0, .int 0, .int 0, .ref q9, .ref q10, .ref q11, .ref q12, .ref q13, .ref q14, .ref q15, .ref q16, .ref q17, .ref q18, .ref q19, .ref q20, .ref q21, .ref q22, .null, .null, .int 0, .null, .null, .null, .null, .null, .null, .null, .int 0, .int 0, .int 0, .int 0, .int 0, .int 0, .int 0, .null, .int 0, .int 0, .int 0, .int 0, .int 0, .null, .int 0]))] ++ T_22) := hD_283
  clear hD_283
  refine lv_aload_n hx hb di_Model_189 rfl (lv_at hl 0 rfl) ?_
  refine lv_bipush (v := 40) hx hb di_Model_190 (by decide) ?_
  refine va_newa (atype := .int) (a0 := (40, .inl (fun _ => 0))) hx hb (hts _ dh_w_aI) rfl hK hP_285 hD_286 hS_284 hA (fun _ => rfl) (by decide) (by decide) (by decide) (Nat.le_of_ble_eq_true rfl) (Nat.le_of_ble_eq_true rfl) di_Model_192 (fun q23 cA H_287 hK1 hP_288 hD_289 hS_290 => ?_)
  clear hP_285 hD_286 hS_284
  obtain rfl := dh_ta1 hK1
  clear hK1
  have hPj : va_P D vwCl ([(h0, .inr (11, [.ref q1, .ref q2, .ref q3, .ref q4, .ref q5, .ref q6, .ref q7, .int 0, .int 0, .ref q8, .int 0, .int 0, .int 0, .int 0, .int 0, .int 0, .int 0, .int 0, .int 0, .ref q9, .ref q10, .ref q11, .ref q12, .ref q13, .ref q14, .ref q15, .ref q16, .ref q17, .ref q18, .ref q19, .ref q20, .ref q21, .ref q22, .null, .null, .int 0, .null, .null, .null, .null, .null, .null, .null, .int 0, .int 0, .int 0, .int 0, .int 0, .int 0, .int 0, .null, .int 0, .int 0, .int 0, .int 0, .int 0, .null, .int 0]))] ++ (T_22 ++ [(q23, .inl (ta 1, (40, .inl (fun _ => 0))))])) H_287 := by rw [← List.append_assoc]; exact hP_288
  have hDj : va_D A ([(h0, .inr (11, [.ref q1, .ref q2, .ref q3, .ref q4, .ref q5, .ref q6, .ref q7, .int 0, .int 0, .ref q8, .int 0, .int 0, .int 0, .int 0, .int 0, .int 0, .int 0, .int 0, .int 0, .ref q9, .ref q10, .ref q11, .ref q12, .ref q13, .ref q14, .ref q15, .ref q16, .ref q17, .ref q18, .ref q19, .ref q20, .ref q21, .ref q22, .null, .null, .int 0, .null, .null, .null, .null, .null, .null, .null, .int 0, .int 0, .int 0, .int 0, .int 0, .int 0, .int 0, .null, .int 0, .int 0, .int 0, .int 0, .int 0, .null, .int 0]))] ++ (T_22 ++ [(q23, .inl (ta 1, (40, .inl (fun _ => 0))))])) := by rw [← List.append_assoc]; exact hD_289
  clear hP_288 hD_289
  obtain ⟨T_23, eT_23⟩ : ∃ z, z = T_22 ++ [(q23, .inl (ta 1, (40, .inl (fun _ => 0))))] := ⟨_, rfl⟩
  rw [← eT_23] at hPj hDj
  have hP_291 := hPj
  have hD_292 := hDj
  clear hPj hDj
  refine W.widen (k := 23) (n := 23394) (Nat.le_of_ble_eq_true rfl) (Nat.le_of_ble_eq_true rfl) ?_
  refine va_putF (D := D) (ci := 11) (v := .ref q23) (ty := .array .int) (C := RX11) (T := TX11) (N := 58) hx hb hts dh_u11 tyX11 tyX11_ok nmX11 hown hK hP_291 hD_292 hS_290 0 rfl rfl 33 (by decide) (hts (.fieldLink RX11 78 RX11 "lostRow" "[I") (dh_has_in (i := 1144) (by decide +kernel))) (fun _ h9 => h9) rfl hin rfl (by decide +kernel) rfl rfl (Nat.le_of_ble_eq_true rfl) di_Model_194 (fun H_293 locs_294 hP_295 hD_296 hS_297 => ?_)
  clear hP_291 hD_292 hS_290
  have hP_298 : va_P D vwCl ([(h0, .inr (11, [.ref q1, .ref q2, .ref q3, .ref q4, .ref q5, .ref q6, .ref q7, .int 0, .int 0, .ref q8, .int 0, .int 0, .int 0, .int 0, .int 0, .int 0, .int 0, .int 0, .int 0, .ref q9, .ref q10, .ref q11, .ref q12, .ref q13, .ref q14, .ref q15, .ref q16, .ref q17, .ref q18, .ref q19, .ref q20, .ref q21, .ref q22, .ref q23, .null, .int 0, .null, .null, .null, .null, .null, .null, .null, .int 0, .int 0, .int 0, .int 0, .int 0, .int 0, .int 0, .null, .int 0, .int 0, .int 0, .int 0, .int 0, .null, .int 0]))] ++ T_23) H_293 := hP_295
  clear hP_295
  have hD_299 : va_D A ([(h0, .inr (11, [.ref q1, .ref q2, .ref q3, .ref q4, .ref q5, .ref q6, .ref q7, .int 0, .int 0, .ref q8, .int 0, .int 0, .int 0, .int 0, .int 0, .int 0, .int 0, .int 0, .int 0, .ref q9, .ref q10, .ref q11, .ref q12, .ref q13, .ref q14, .ref q15, .ref q16, .ref q17, .ref q18, .ref q19, .ref q20, .ref q21, .ref q22, .ref q23, .null, .int 0, .null, .null, .null, .null, .null, .null, .null, .int 0, .int 0, .int 0, .int 0, .int 0, .int 0, .int 0, .null, .int 0, .int 0, .int 0, .int 0, .int 0, .null, .int 0]))] ++ T_23) := hD_296
  clear hD_296
  refine lv_aload_n hx hb di_Model_197 rfl (lv_at hl 0 rfl) ?_
  refine lv_sipush (v := 8643) hx hb di_Model_198 (by decide) ?_
  refine va_newa (atype := .int) (a0 := (8643, .inl (fun _ => 0))) hx hb (hts _ dh_w_aI) rfl hK hP_298 hD_299 hS_297 hA (fun _ => rfl) (by decide) (by decide) (by decide) (Nat.le_of_ble_eq_true rfl) (Nat.le_of_ble_eq_true rfl) di_Model_201 (fun q24 cA H_300 hK1 hP_301 hD_302 hS_303 => ?_)
  clear hP_298 hD_299 hS_297
  obtain rfl := dh_ta1 hK1
  clear hK1
  have hPj : va_P D vwCl ([(h0, .inr (11, [.ref q1, .ref q2, .ref q3, .ref q4, .ref q5, .ref q6, .ref q7, .int 0, .int 0, .ref q8, .int 0, .int 0, .int 0, .int 0, .int 0, .int 0, .int 0, .int 0, .int 0, .ref q9, .ref q10, .ref q11, .ref q12, .ref q13, .ref q14, .ref q15, .ref q16, .ref q17, .ref q18, .ref q19, .ref q20, .ref q21, .ref q22, .ref q23, .null, .int 0, .null, .null, .null, .null, .null, .null, .null, .int 0, .int 0, .int 0, .int 0, .int 0, .int 0, .int 0, .null, .int 0, .int 0, .int 0, .int 0, .int 0, .null, .int 0]))] ++ (T_23 ++ [(q24, .inl (ta 1, (8643, .inl (fun _ => 0))))])) H_300 := by rw [← List.append_assoc]; exact hP_301
  have hDj : va_D A ([(h0, .inr (11, [.ref q1, .ref q2, .ref q3, .ref q4, .ref q5, .ref q6, .ref q7, .int 0, .int 0, .ref q8, .int 0, .int 0, .int 0, .int 0, .int 0, .int 0, .int 0, .int 0, .int 0, .ref q9, .ref q10, .ref q11, .ref q12, .ref q13, .ref q14, .ref q15, .ref q16, .ref q17, .ref q18, .ref q19, .ref q20, .ref q21, .ref q22, .ref q23, .null, .int 0, .null, .null, .null, .null, .null, .null, .null, .int 0, .int 0, .int 0, .int 0, .int 0, .int 0, .int 0, .null, .int 0, .int 0, .int 0, .int 0, .int 0, .null, .int 0]))] ++ (T_23 ++ [(q24, .inl (ta 1, (8643, .inl (fun _ => 0))))])) := by rw [← List.append_assoc]; exact hD_302
  clear hP_301 hD_302
  obtain ⟨T_24, eT_24⟩ : ∃ z, z = T_23 ++ [(q24, .inl (ta 1, (8643, .inl (fun _ => 0))))] := ⟨_, rfl⟩
  rw [← eT_24] at hPj hDj
  have hP_304 := hPj
  have hD_305 := hDj
  clear hPj hDj
  refine W.widen (k := 24) (n := 32037) (Nat.le_of_ble_eq_true rfl) (Nat.le_of_ble_eq_true rfl) ?_
  refine va_putF (D := D) (ci := 11) (v := .ref q24) (ty := .array .int) (C := RX11) (T := TX11) (N := 58) hx hb hts dh_u11 tyX11 tyX11_ok nmX11 hown hK hP_304 hD_305 hS_303 0 rfl rfl 34 (by decide) (hts (.fieldLink RX11 81 RX11 "waysTo" "[I") (dh_has_in (i := 1145) (by decide +kernel))) (fun _ h9 => h9) rfl hin rfl (by decide +kernel) rfl rfl (Nat.le_of_ble_eq_true rfl) di_Model_203 (fun H_306 locs_307 hP_308 hD_309 hS_310 => ?_)
  clear hP_304 hD_305 hS_303
  have hP_311 : va_P D vwCl ([(h0, .inr (11, [.ref q1, .ref q2, .ref q3, .ref q4, .ref q5, .ref q6, .ref q7, .int 0, .int 0, .ref q8, .int 0, .int 0, .int 0, .int 0, .int 0, .int 0, .int 0, .int 0, .int 0, .ref q9, .ref q10, .ref q11, .ref q12, .ref q13, .ref q14, .ref q15, .ref q16, .ref q17, .ref q18, .ref q19, .ref q20, .ref q21, .ref q22, .ref q23, .ref q24, .int 0, .null, .null, .null, .null, .null, .null, .null, .int 0, .int 0, .int 0, .int 0, .int 0, .int 0, .int 0, .null, .int 0, .int 0, .int 0, .int 0, .int 0, .null, .int 0]))] ++ T_24) H_306 := hP_308
  clear hP_308
  have hD_312 : va_D A ([(h0, .inr (11, [.ref q1, .ref q2, .ref q3, .ref q4, .ref q5, .ref q6, .ref q7, .int 0, .int 0, .ref q8, .int 0, .int 0, .int 0, .int 0, .int 0, .int 0, .int 0, .int 0, .int 0, .ref q9, .ref q10, .ref q11, .ref q12, .ref q13, .ref q14, .ref q15, .ref q16, .ref q17, .ref q18, .ref q19, .ref q20, .ref q21, .ref q22, .ref q23, .ref q24, .int 0, .null, .null, .null, .null, .null, .null, .null, .int 0, .int 0, .int 0, .int 0, .int 0, .int 0, .int 0, .null, .int 0, .int 0, .int 0, .int 0, .int 0, .null, .int 0]))] ++ T_24) := hD_309
  clear hD_309
  refine lv_aload_n hx hb di_Model_206 rfl (lv_at hl 0 rfl) ?_
  refine lv_sipush (v := 18081) hx hb di_Model_207 (by decide) ?_
  refine va_newa (atype := .boolean) (a0 := (18081, .inl (fun _ => 0))) hx hb (hts _ dh_w_aZ) rfl hK hP_311 hD_312 hS_310 hA (fun _ => rfl) (by decide) (by decide) (by decide) (Nat.le_of_ble_eq_true rfl) (Nat.le_of_ble_eq_true rfl) di_Model_210 (fun q25 cA H_313 hK1 hP_314 hD_315 hS_316 => ?_)
  clear hP_311 hD_312 hS_310
  obtain rfl := dh_ta4 hK1
  clear hK1
  have hPj : va_P D vwCl ([(h0, .inr (11, [.ref q1, .ref q2, .ref q3, .ref q4, .ref q5, .ref q6, .ref q7, .int 0, .int 0, .ref q8, .int 0, .int 0, .int 0, .int 0, .int 0, .int 0, .int 0, .int 0, .int 0, .ref q9, .ref q10, .ref q11, .ref q12, .ref q13, .ref q14, .ref q15, .ref q16, .ref q17, .ref q18, .ref q19, .ref q20, .ref q21, .ref q22, .ref q23, .ref q24, .int 0, .null, .null, .null, .null, .null, .null, .null, .int 0, .int 0, .int 0, .int 0, .int 0, .int 0, .int 0, .null, .int 0, .int 0, .int 0, .int 0, .int 0, .null, .int 0]))] ++ (T_24 ++ [(q25, .inl (ta 4, (18081, .inl (fun _ => 0))))])) H_313 := by rw [← List.append_assoc]; exact hP_314
  have hDj : va_D A ([(h0, .inr (11, [.ref q1, .ref q2, .ref q3, .ref q4, .ref q5, .ref q6, .ref q7, .int 0, .int 0, .ref q8, .int 0, .int 0, .int 0, .int 0, .int 0, .int 0, .int 0, .int 0, .int 0, .ref q9, .ref q10, .ref q11, .ref q12, .ref q13, .ref q14, .ref q15, .ref q16, .ref q17, .ref q18, .ref q19, .ref q20, .ref q21, .ref q22, .ref q23, .ref q24, .int 0, .null, .null, .null, .null, .null, .null, .null, .int 0, .int 0, .int 0, .int 0, .int 0, .int 0, .int 0, .null, .int 0, .int 0, .int 0, .int 0, .int 0, .null, .int 0]))] ++ (T_24 ++ [(q25, .inl (ta 4, (18081, .inl (fun _ => 0))))])) := by rw [← List.append_assoc]; exact hD_315
  clear hP_314 hD_315
  obtain ⟨T_25, eT_25⟩ : ∃ z, z = T_24 ++ [(q25, .inl (ta 4, (18081, .inl (fun _ => 0))))] := ⟨_, rfl⟩
  rw [← eT_25] at hPj hDj
  have hP_317 := hPj
  have hD_318 := hDj
  clear hPj hDj
  refine W.widen (k := 25) (n := 50118) (Nat.le_of_ble_eq_true rfl) (Nat.le_of_ble_eq_true rfl) ?_
  refine va_putF (D := D) (ci := 11) (v := .ref q25) (ty := .array .boolean) (C := RX11) (T := TX11) (N := 58) hx hb hts dh_u11 tyX11 tyX11_ok nmX11 hown hK hP_317 hD_318 hS_316 0 rfl rfl 36 (by decide) (hts (.fieldLink RX11 84 RX11 "isWonTwo" "[Z") (dh_has_in (i := 1147) (by decide +kernel))) (fun _ h9 => h9) rfl hin rfl (by decide +kernel) rfl rfl (Nat.le_of_ble_eq_true rfl) di_Model_212 (fun H_319 locs_320 hP_321 hD_322 hS_323 => ?_)
  clear hP_317 hD_318 hS_316
  have hP_324 : va_P D vwCl ([(h0, .inr (11, [.ref q1, .ref q2, .ref q3, .ref q4, .ref q5, .ref q6, .ref q7, .int 0, .int 0, .ref q8, .int 0, .int 0, .int 0, .int 0, .int 0, .int 0, .int 0, .int 0, .int 0, .ref q9, .ref q10, .ref q11, .ref q12, .ref q13, .ref q14, .ref q15, .ref q16, .ref q17, .ref q18, .ref q19, .ref q20, .ref q21, .ref q22, .ref q23, .ref q24, .int 0, .ref q25, .null, .null, .null, .null, .null, .null, .int 0, .int 0, .int 0, .int 0, .int 0, .int 0, .int 0, .null, .int 0, .int 0, .int 0, .int 0, .int 0, .null, .int 0]))] ++ T_25) H_319 := hP_321
  clear hP_321
  have hD_325 : va_D A ([(h0, .inr (11, [.ref q1, .ref q2, .ref q3, .ref q4, .ref q5, .ref q6, .ref q7, .int 0, .int 0, .ref q8, .int 0, .int 0, .int 0, .int 0, .int 0, .int 0, .int 0, .int 0, .int 0, .ref q9, .ref q10, .ref q11, .ref q12, .ref q13, .ref q14, .ref q15, .ref q16, .ref q17, .ref q18, .ref q19, .ref q20, .ref q21, .ref q22, .ref q23, .ref q24, .int 0, .ref q25, .null, .null, .null, .null, .null, .null, .int 0, .int 0, .int 0, .int 0, .int 0, .int 0, .int 0, .null, .int 0, .int 0, .int 0, .int 0, .int 0, .null, .int 0]))] ++ T_25) := hD_322
  clear hD_322
  refine lv_aload_n hx hb di_Model_215 rfl (lv_at hl 0 rfl) ?_
  refine lv_ldc (v := 35301) hx hb hown (hts (.constant RX11 88 35301) (dh_has_in (i := 1110) (by decide +kernel))) di_Model_216 ?_
  refine va_newa (atype := .boolean) (a0 := (35301, .inl (fun _ => 0))) hx hb (hts _ dh_w_aZ) rfl hK hP_324 hD_325 hS_323 hA (fun _ => rfl) (by decide) (by decide) (by decide) (Nat.le_of_ble_eq_true rfl) (Nat.le_of_ble_eq_true rfl) di_Model_218 (fun q26 cA H_326 hK1 hP_327 hD_328 hS_329 => ?_)
  clear hP_324 hD_325 hS_323
  obtain rfl := dh_ta4 hK1
  clear hK1
  have hPj : va_P D vwCl ([(h0, .inr (11, [.ref q1, .ref q2, .ref q3, .ref q4, .ref q5, .ref q6, .ref q7, .int 0, .int 0, .ref q8, .int 0, .int 0, .int 0, .int 0, .int 0, .int 0, .int 0, .int 0, .int 0, .ref q9, .ref q10, .ref q11, .ref q12, .ref q13, .ref q14, .ref q15, .ref q16, .ref q17, .ref q18, .ref q19, .ref q20, .ref q21, .ref q22, .ref q23, .ref q24, .int 0, .ref q25, .null, .null, .null, .null, .null, .null, .int 0, .int 0, .int 0, .int 0, .int 0, .int 0, .int 0, .null, .int 0, .int 0, .int 0, .int 0, .int 0, .null, .int 0]))] ++ (T_25 ++ [(q26, .inl (ta 4, (35301, .inl (fun _ => 0))))])) H_326 := by rw [← List.append_assoc]; exact hP_327
  have hDj : va_D A ([(h0, .inr (11, [.ref q1, .ref q2, .ref q3, .ref q4, .ref q5, .ref q6, .ref q7, .int 0, .int 0, .ref q8, .int 0, .int 0, .int 0, .int 0, .int 0, .int 0, .int 0, .int 0, .int 0, .ref q9, .ref q10, .ref q11, .ref q12, .ref q13, .ref q14, .ref q15, .ref q16, .ref q17, .ref q18, .ref q19, .ref q20, .ref q21, .ref q22, .ref q23, .ref q24, .int 0, .ref q25, .null, .null, .null, .null, .null, .null, .int 0, .int 0, .int 0, .int 0, .int 0, .int 0, .int 0, .null, .int 0, .int 0, .int 0, .int 0, .int 0, .null, .int 0]))] ++ (T_25 ++ [(q26, .inl (ta 4, (35301, .inl (fun _ => 0))))])) := by rw [← List.append_assoc]; exact hD_328
  clear hP_327 hD_328
  obtain ⟨T_26, eT_26⟩ : ∃ z, z = T_25 ++ [(q26, .inl (ta 4, (35301, .inl (fun _ => 0))))] := ⟨_, rfl⟩
  rw [← eT_26] at hPj hDj
  have hP_330 := hPj
  have hD_331 := hDj
  clear hPj hDj
  refine W.widen (k := 26) (n := 85419) (Nat.le_of_ble_eq_true rfl) (Nat.le_of_ble_eq_true rfl) ?_
  refine va_putF (D := D) (ci := 11) (v := .ref q26) (ty := .array .boolean) (C := RX11) (T := TX11) (N := 58) hx hb hts dh_u11 tyX11 tyX11_ok nmX11 hown hK hP_330 hD_331 hS_329 0 rfl rfl 37 (by decide) (hts (.fieldLink RX11 89 RX11 "isWonGrowing" "[Z") (dh_has_in (i := 1148) (by decide +kernel))) (fun _ h9 => h9) rfl hin rfl (by decide +kernel) rfl rfl (Nat.le_of_ble_eq_true rfl) di_Model_220 (fun H_332 locs_333 hP_334 hD_335 hS_336 => ?_)
  clear hP_330 hD_331 hS_329
  have hP_337 : va_P D vwCl ([(h0, .inr (11, [.ref q1, .ref q2, .ref q3, .ref q4, .ref q5, .ref q6, .ref q7, .int 0, .int 0, .ref q8, .int 0, .int 0, .int 0, .int 0, .int 0, .int 0, .int 0, .int 0, .int 0, .ref q9, .ref q10, .ref q11, .ref q12, .ref q13, .ref q14, .ref q15, .ref q16, .ref q17, .ref q18, .ref q19, .ref q20, .ref q21, .ref q22, .ref q23, .ref q24, .int 0, .ref q25, .ref q26, .null, .null, .null, .null, .null, .int 0, .int 0, .int 0, .int 0, .int 0, .int 0, .int 0, .null, .int 0, .int 0, .int 0, .int 0, .int 0, .null, .int 0]))] ++ T_26) H_332 := hP_334
  clear hP_334
  have hD_338 : va_D A ([(h0, .inr (11, [.ref q1, .ref q2, .ref q3, .ref q4, .ref q5, .ref q6, .ref q7, .int 0, .int 0, .ref q8, .int 0, .int 0, .int 0, .int 0, .int 0, .int 0, .int 0, .int 0, .int 0, .ref q9, .ref q10, .ref q11, .ref q12, .ref q13, .ref q14, .ref q15, .ref q16, .ref q17, .ref q18, .ref q19, .ref q20, .ref q21, .ref q22, .ref q23, .ref q24, .int 0, .ref q25, .ref q26, .null, .null, .null, .null, .null, .int 0, .int 0, .int 0, .int 0, .int 0, .int 0, .int 0, .null, .int 0, .int 0, .int 0, .int 0, .int 0, .null, .int 0]))] ++ T_26) := hD_335
  clear hD_335
  refine lv_aload_n hx hb di_Model_223 rfl (lv_at hl 0 rfl) ?_
  refine lv_sipush (v := 1681) hx hb di_Model_224 (by decide) ?_
  refine va_newa (atype := .boolean) (a0 := (1681, .inl (fun _ => 0))) hx hb (hts _ dh_w_aZ) rfl hK hP_337 hD_338 hS_336 hA (fun _ => rfl) (by decide) (by decide) (by decide) (Nat.le_of_ble_eq_true rfl) (Nat.le_of_ble_eq_true rfl) di_Model_227 (fun q27 cA H_339 hK1 hP_340 hD_341 hS_342 => ?_)
  clear hP_337 hD_338 hS_336
  obtain rfl := dh_ta4 hK1
  clear hK1
  have hPj : va_P D vwCl ([(h0, .inr (11, [.ref q1, .ref q2, .ref q3, .ref q4, .ref q5, .ref q6, .ref q7, .int 0, .int 0, .ref q8, .int 0, .int 0, .int 0, .int 0, .int 0, .int 0, .int 0, .int 0, .int 0, .ref q9, .ref q10, .ref q11, .ref q12, .ref q13, .ref q14, .ref q15, .ref q16, .ref q17, .ref q18, .ref q19, .ref q20, .ref q21, .ref q22, .ref q23, .ref q24, .int 0, .ref q25, .ref q26, .null, .null, .null, .null, .null, .int 0, .int 0, .int 0, .int 0, .int 0, .int 0, .int 0, .null, .int 0, .int 0, .int 0, .int 0, .int 0, .null, .int 0]))] ++ (T_26 ++ [(q27, .inl (ta 4, (1681, .inl (fun _ => 0))))])) H_339 := by rw [← List.append_assoc]; exact hP_340
  have hDj : va_D A ([(h0, .inr (11, [.ref q1, .ref q2, .ref q3, .ref q4, .ref q5, .ref q6, .ref q7, .int 0, .int 0, .ref q8, .int 0, .int 0, .int 0, .int 0, .int 0, .int 0, .int 0, .int 0, .int 0, .ref q9, .ref q10, .ref q11, .ref q12, .ref q13, .ref q14, .ref q15, .ref q16, .ref q17, .ref q18, .ref q19, .ref q20, .ref q21, .ref q22, .ref q23, .ref q24, .int 0, .ref q25, .ref q26, .null, .null, .null, .null, .null, .int 0, .int 0, .int 0, .int 0, .int 0, .int 0, .int 0, .null, .int 0, .int 0, .int 0, .int 0, .int 0, .null, .int 0]))] ++ (T_26 ++ [(q27, .inl (ta 4, (1681, .inl (fun _ => 0))))])) := by rw [← List.append_assoc]; exact hD_341
  clear hP_340 hD_341
  obtain ⟨T_27, eT_27⟩ : ∃ z, z = T_26 ++ [(q27, .inl (ta 4, (1681, .inl (fun _ => 0))))] := ⟨_, rfl⟩
  rw [← eT_27] at hPj hDj
  have hP_343 := hPj
  have hD_344 := hDj
  clear hPj hDj
  refine W.widen (k := 27) (n := 87100) (Nat.le_of_ble_eq_true rfl) (Nat.le_of_ble_eq_true rfl) ?_
  refine va_putF (D := D) (ci := 11) (v := .ref q27) (ty := .array .boolean) (C := RX11) (T := TX11) (N := 58) hx hb hts dh_u11 tyX11 tyX11_ok nmX11 hown hK hP_343 hD_344 hS_342 0 rfl rfl 38 (by decide) (hts (.fieldLink RX11 92 RX11 "isWonMine" "[Z") (dh_has_in (i := 1149) (by decide +kernel))) (fun _ h9 => h9) rfl hin rfl (by decide +kernel) rfl rfl (Nat.le_of_ble_eq_true rfl) di_Model_229 (fun H_345 locs_346 hP_347 hD_348 hS_349 => ?_)
  clear hP_343 hD_344 hS_342
  have hP_350 : va_P D vwCl ([(h0, .inr (11, [.ref q1, .ref q2, .ref q3, .ref q4, .ref q5, .ref q6, .ref q7, .int 0, .int 0, .ref q8, .int 0, .int 0, .int 0, .int 0, .int 0, .int 0, .int 0, .int 0, .int 0, .ref q9, .ref q10, .ref q11, .ref q12, .ref q13, .ref q14, .ref q15, .ref q16, .ref q17, .ref q18, .ref q19, .ref q20, .ref q21, .ref q22, .ref q23, .ref q24, .int 0, .ref q25, .ref q26, .ref q27, .null, .null, .null, .null, .int 0, .int 0, .int 0, .int 0, .int 0, .int 0, .int 0, .null, .int 0, .int 0, .int 0, .int 0, .int 0, .null, .int 0]))] ++ T_27) H_345 := hP_347
  clear hP_347
  have hD_351 : va_D A ([(h0, .inr (11, [.ref q1, .ref q2, .ref q3, .ref q4, .ref q5, .ref q6, .ref q7, .int 0, .int 0, .ref q8, .int 0, .int 0, .int 0, .int 0, .int 0, .int 0, .int 0, .int 0, .int 0, .ref q9, .ref q10, .ref q11, .ref q12, .ref q13, .ref q14, .ref q15, .ref q16, .ref q17, .ref q18, .ref q19, .ref q20, .ref q21, .ref q22, .ref q23, .ref q24, .int 0, .ref q25, .ref q26, .ref q27, .null, .null, .null, .null, .int 0, .int 0, .int 0, .int 0, .int 0, .int 0, .int 0, .null, .int 0, .int 0, .int 0, .int 0, .int 0, .null, .int 0]))] ++ T_27) := hD_348
  clear hD_348
  refine lv_aload_n hx hb di_Model_232 rfl (lv_at hl 0 rfl) ?_
  refine lv_sipush (v := 1681) hx hb di_Model_233 (by decide) ?_
  refine va_newa (atype := .boolean) (a0 := (1681, .inl (fun _ => 0))) hx hb (hts _ dh_w_aZ) rfl hK hP_350 hD_351 hS_349 hA (fun _ => rfl) (by decide) (by decide) (by decide) (Nat.le_of_ble_eq_true rfl) (Nat.le_of_ble_eq_true rfl) di_Model_236 (fun q28 cA H_352 hK1 hP_353 hD_354 hS_355 => ?_)
  clear hP_350 hD_351 hS_349
  obtain rfl := dh_ta4 hK1
  clear hK1
  have hPj : va_P D vwCl ([(h0, .inr (11, [.ref q1, .ref q2, .ref q3, .ref q4, .ref q5, .ref q6, .ref q7, .int 0, .int 0, .ref q8, .int 0, .int 0, .int 0, .int 0, .int 0, .int 0, .int 0, .int 0, .int 0, .ref q9, .ref q10, .ref q11, .ref q12, .ref q13, .ref q14, .ref q15, .ref q16, .ref q17, .ref q18, .ref q19, .ref q20, .ref q21, .ref q22, .ref q23, .ref q24, .int 0, .ref q25, .ref q26, .ref q27, .null, .null, .null, .null, .int 0, .int 0, .int 0, .int 0, .int 0, .int 0, .int 0, .null, .int 0, .int 0, .int 0, .int 0, .int 0, .null, .int 0]))] ++ (T_27 ++ [(q28, .inl (ta 4, (1681, .inl (fun _ => 0))))])) H_352 := by rw [← List.append_assoc]; exact hP_353
  have hDj : va_D A ([(h0, .inr (11, [.ref q1, .ref q2, .ref q3, .ref q4, .ref q5, .ref q6, .ref q7, .int 0, .int 0, .ref q8, .int 0, .int 0, .int 0, .int 0, .int 0, .int 0, .int 0, .int 0, .int 0, .ref q9, .ref q10, .ref q11, .ref q12, .ref q13, .ref q14, .ref q15, .ref q16, .ref q17, .ref q18, .ref q19, .ref q20, .ref q21, .ref q22, .ref q23, .ref q24, .int 0, .ref q25, .ref q26, .ref q27, .null, .null, .null, .null, .int 0, .int 0, .int 0, .int 0, .int 0, .int 0, .int 0, .null, .int 0, .int 0, .int 0, .int 0, .int 0, .null, .int 0]))] ++ (T_27 ++ [(q28, .inl (ta 4, (1681, .inl (fun _ => 0))))])) := by rw [← List.append_assoc]; exact hD_354
  clear hP_353 hD_354
  obtain ⟨T_28, eT_28⟩ : ∃ z, z = T_27 ++ [(q28, .inl (ta 4, (1681, .inl (fun _ => 0))))] := ⟨_, rfl⟩
  rw [← eT_28] at hPj hDj
  have hP_356 := hPj
  have hD_357 := hDj
  clear hPj hDj
  refine W.widen (k := 28) (n := 88781) (Nat.le_of_ble_eq_true rfl) (Nat.le_of_ble_eq_true rfl) ?_
  refine va_putF (D := D) (ci := 11) (v := .ref q28) (ty := .array .boolean) (C := RX11) (T := TX11) (N := 58) hx hb hts dh_u11 tyX11 tyX11_ok nmX11 hown hK hP_356 hD_357 hS_355 0 rfl rfl 39 (by decide) (hts (.fieldLink RX11 95 RX11 "isWonTheirs" "[Z") (dh_has_in (i := 1150) (by decide +kernel))) (fun _ h9 => h9) rfl hin rfl (by decide +kernel) rfl rfl (Nat.le_of_ble_eq_true rfl) di_Model_238 (fun H_358 locs_359 hP_360 hD_361 hS_362 => ?_)
  clear hP_356 hD_357 hS_355
  have hP_363 : va_P D vwCl ([(h0, .inr (11, [.ref q1, .ref q2, .ref q3, .ref q4, .ref q5, .ref q6, .ref q7, .int 0, .int 0, .ref q8, .int 0, .int 0, .int 0, .int 0, .int 0, .int 0, .int 0, .int 0, .int 0, .ref q9, .ref q10, .ref q11, .ref q12, .ref q13, .ref q14, .ref q15, .ref q16, .ref q17, .ref q18, .ref q19, .ref q20, .ref q21, .ref q22, .ref q23, .ref q24, .int 0, .ref q25, .ref q26, .ref q27, .ref q28, .null, .null, .null, .int 0, .int 0, .int 0, .int 0, .int 0, .int 0, .int 0, .null, .int 0, .int 0, .int 0, .int 0, .int 0, .null, .int 0]))] ++ T_28) H_358 := hP_360
  clear hP_360
  have hD_364 : va_D A ([(h0, .inr (11, [.ref q1, .ref q2, .ref q3, .ref q4, .ref q5, .ref q6, .ref q7, .int 0, .int 0, .ref q8, .int 0, .int 0, .int 0, .int 0, .int 0, .int 0, .int 0, .int 0, .int 0, .ref q9, .ref q10, .ref q11, .ref q12, .ref q13, .ref q14, .ref q15, .ref q16, .ref q17, .ref q18, .ref q19, .ref q20, .ref q21, .ref q22, .ref q23, .ref q24, .int 0, .ref q25, .ref q26, .ref q27, .ref q28, .null, .null, .null, .int 0, .int 0, .int 0, .int 0, .int 0, .int 0, .int 0, .null, .int 0, .int 0, .int 0, .int 0, .int 0, .null, .int 0]))] ++ T_28) := hD_361
  clear hD_361
  refine lv_aload_n hx hb di_Model_241 rfl (lv_at hl 0 rfl) ?_
  refine lv_sipush (v := 6724) hx hb di_Model_242 (by decide) ?_
  refine va_newa (atype := .boolean) (a0 := (6724, .inl (fun _ => 0))) hx hb (hts _ dh_w_aZ) rfl hK hP_363 hD_364 hS_362 hA (fun _ => rfl) (by decide) (by decide) (by decide) (Nat.le_of_ble_eq_true rfl) (Nat.le_of_ble_eq_true rfl) di_Model_245 (fun q29 cA H_365 hK1 hP_366 hD_367 hS_368 => ?_)
  clear hP_363 hD_364 hS_362
  obtain rfl := dh_ta4 hK1
  clear hK1
  have hPj : va_P D vwCl ([(h0, .inr (11, [.ref q1, .ref q2, .ref q3, .ref q4, .ref q5, .ref q6, .ref q7, .int 0, .int 0, .ref q8, .int 0, .int 0, .int 0, .int 0, .int 0, .int 0, .int 0, .int 0, .int 0, .ref q9, .ref q10, .ref q11, .ref q12, .ref q13, .ref q14, .ref q15, .ref q16, .ref q17, .ref q18, .ref q19, .ref q20, .ref q21, .ref q22, .ref q23, .ref q24, .int 0, .ref q25, .ref q26, .ref q27, .ref q28, .null, .null, .null, .int 0, .int 0, .int 0, .int 0, .int 0, .int 0, .int 0, .null, .int 0, .int 0, .int 0, .int 0, .int 0, .null, .int 0]))] ++ (T_28 ++ [(q29, .inl (ta 4, (6724, .inl (fun _ => 0))))])) H_365 := by rw [← List.append_assoc]; exact hP_366
  have hDj : va_D A ([(h0, .inr (11, [.ref q1, .ref q2, .ref q3, .ref q4, .ref q5, .ref q6, .ref q7, .int 0, .int 0, .ref q8, .int 0, .int 0, .int 0, .int 0, .int 0, .int 0, .int 0, .int 0, .int 0, .ref q9, .ref q10, .ref q11, .ref q12, .ref q13, .ref q14, .ref q15, .ref q16, .ref q17, .ref q18, .ref q19, .ref q20, .ref q21, .ref q22, .ref q23, .ref q24, .int 0, .ref q25, .ref q26, .ref q27, .ref q28, .null, .null, .null, .int 0, .int 0, .int 0, .int 0, .int 0, .int 0, .int 0, .null, .int 0, .int 0, .int 0, .int 0, .int 0, .null, .int 0]))] ++ (T_28 ++ [(q29, .inl (ta 4, (6724, .inl (fun _ => 0))))])) := by rw [← List.append_assoc]; exact hD_367
  clear hP_366 hD_367
  obtain ⟨T_29, eT_29⟩ : ∃ z, z = T_28 ++ [(q29, .inl (ta 4, (6724, .inl (fun _ => 0))))] := ⟨_, rfl⟩
  rw [← eT_29] at hPj hDj
  have hP_369 := hPj
  have hD_370 := hDj
  clear hPj hDj
  refine W.widen (k := 29) (n := 95505) (Nat.le_of_ble_eq_true rfl) (Nat.le_of_ble_eq_true rfl) ?_
  refine va_putF (D := D) (ci := 11) (v := .ref q29) (ty := .array .boolean) (C := RX11) (T := TX11) (N := 58) hx hb hts dh_u11 tyX11 tyX11_ok nmX11 hown hK hP_369 hD_370 hS_368 0 rfl rfl 40 (by decide) (hts (.fieldLink RX11 98 RX11 "isWonPassing" "[Z") (dh_has_in (i := 1151) (by decide +kernel))) (fun _ h9 => h9) rfl hin rfl (by decide +kernel) rfl rfl (Nat.le_of_ble_eq_true rfl) di_Model_247 (fun H_371 locs_372 hP_373 hD_374 hS_375 => ?_)
  clear hP_369 hD_370 hS_368
  have hP_376 : va_P D vwCl ([(h0, .inr (11, [.ref q1, .ref q2, .ref q3, .ref q4, .ref q5, .ref q6, .ref q7, .int 0, .int 0, .ref q8, .int 0, .int 0, .int 0, .int 0, .int 0, .int 0, .int 0, .int 0, .int 0, .ref q9, .ref q10, .ref q11, .ref q12, .ref q13, .ref q14, .ref q15, .ref q16, .ref q17, .ref q18, .ref q19, .ref q20, .ref q21, .ref q22, .ref q23, .ref q24, .int 0, .ref q25, .ref q26, .ref q27, .ref q28, .ref q29, .null, .null, .int 0, .int 0, .int 0, .int 0, .int 0, .int 0, .int 0, .null, .int 0, .int 0, .int 0, .int 0, .int 0, .null, .int 0]))] ++ T_29) H_371 := hP_373
  clear hP_373
  have hD_377 : va_D A ([(h0, .inr (11, [.ref q1, .ref q2, .ref q3, .ref q4, .ref q5, .ref q6, .ref q7, .int 0, .int 0, .ref q8, .int 0, .int 0, .int 0, .int 0, .int 0, .int 0, .int 0, .int 0, .int 0, .ref q9, .ref q10, .ref q11, .ref q12, .ref q13, .ref q14, .ref q15, .ref q16, .ref q17, .ref q18, .ref q19, .ref q20, .ref q21, .ref q22, .ref q23, .ref q24, .int 0, .ref q25, .ref q26, .ref q27, .ref q28, .ref q29, .null, .null, .int 0, .int 0, .int 0, .int 0, .int 0, .int 0, .int 0, .null, .int 0, .int 0, .int 0, .int 0, .int 0, .null, .int 0]))] ++ T_29) := hD_374
  clear hD_374
  refine lv_aload_n hx hb di_Model_250 rfl (lv_at hl 0 rfl) ?_
  refine lv_sipush (v := 1681) hx hb di_Model_251 (by decide) ?_
  refine va_newa (atype := .int) (a0 := (1681, .inl (fun _ => 0))) hx hb (hts _ dh_w_aI) rfl hK hP_376 hD_377 hS_375 hA (fun _ => rfl) (by decide) (by decide) (by decide) (Nat.le_of_ble_eq_true rfl) (Nat.le_of_ble_eq_true rfl) di_Model_254 (fun q30 cA H_378 hK1 hP_379 hD_380 hS_381 => ?_)
  clear hP_376 hD_377 hS_375
  obtain rfl := dh_ta1 hK1
  clear hK1
  have hPj : va_P D vwCl ([(h0, .inr (11, [.ref q1, .ref q2, .ref q3, .ref q4, .ref q5, .ref q6, .ref q7, .int 0, .int 0, .ref q8, .int 0, .int 0, .int 0, .int 0, .int 0, .int 0, .int 0, .int 0, .int 0, .ref q9, .ref q10, .ref q11, .ref q12, .ref q13, .ref q14, .ref q15, .ref q16, .ref q17, .ref q18, .ref q19, .ref q20, .ref q21, .ref q22, .ref q23, .ref q24, .int 0, .ref q25, .ref q26, .ref q27, .ref q28, .ref q29, .null, .null, .int 0, .int 0, .int 0, .int 0, .int 0, .int 0, .int 0, .null, .int 0, .int 0, .int 0, .int 0, .int 0, .null, .int 0]))] ++ (T_29 ++ [(q30, .inl (ta 1, (1681, .inl (fun _ => 0))))])) H_378 := by rw [← List.append_assoc]; exact hP_379
  have hDj : va_D A ([(h0, .inr (11, [.ref q1, .ref q2, .ref q3, .ref q4, .ref q5, .ref q6, .ref q7, .int 0, .int 0, .ref q8, .int 0, .int 0, .int 0, .int 0, .int 0, .int 0, .int 0, .int 0, .int 0, .ref q9, .ref q10, .ref q11, .ref q12, .ref q13, .ref q14, .ref q15, .ref q16, .ref q17, .ref q18, .ref q19, .ref q20, .ref q21, .ref q22, .ref q23, .ref q24, .int 0, .ref q25, .ref q26, .ref q27, .ref q28, .ref q29, .null, .null, .int 0, .int 0, .int 0, .int 0, .int 0, .int 0, .int 0, .null, .int 0, .int 0, .int 0, .int 0, .int 0, .null, .int 0]))] ++ (T_29 ++ [(q30, .inl (ta 1, (1681, .inl (fun _ => 0))))])) := by rw [← List.append_assoc]; exact hD_380
  clear hP_379 hD_380
  obtain ⟨T_30, eT_30⟩ : ∃ z, z = T_29 ++ [(q30, .inl (ta 1, (1681, .inl (fun _ => 0))))] := ⟨_, rfl⟩
  rw [← eT_30] at hPj hDj
  have hP_382 := hPj
  have hD_383 := hDj
  clear hPj hDj
  refine W.widen (k := 30) (n := 97186) (Nat.le_of_ble_eq_true rfl) (Nat.le_of_ble_eq_true rfl) ?_
  refine va_putF (D := D) (ci := 11) (v := .ref q30) (ty := .array .int) (C := RX11) (T := TX11) (N := 58) hx hb hts dh_u11 tyX11 tyX11_ok nmX11 hown hK hP_382 hD_383 hS_381 0 rfl rfl 41 (by decide) (hts (.fieldLink RX11 101 RX11 "hopeHers" "[I") (dh_has_in (i := 1152) (by decide +kernel))) (fun _ h9 => h9) rfl hin rfl (by decide +kernel) rfl rfl (Nat.le_of_ble_eq_true rfl) di_Model_256 (fun H_384 locs_385 hP_386 hD_387 hS_388 => ?_)
  clear hP_382 hD_383 hS_381
  have hP_389 : va_P D vwCl ([(h0, .inr (11, [.ref q1, .ref q2, .ref q3, .ref q4, .ref q5, .ref q6, .ref q7, .int 0, .int 0, .ref q8, .int 0, .int 0, .int 0, .int 0, .int 0, .int 0, .int 0, .int 0, .int 0, .ref q9, .ref q10, .ref q11, .ref q12, .ref q13, .ref q14, .ref q15, .ref q16, .ref q17, .ref q18, .ref q19, .ref q20, .ref q21, .ref q22, .ref q23, .ref q24, .int 0, .ref q25, .ref q26, .ref q27, .ref q28, .ref q29, .ref q30, .null, .int 0, .int 0, .int 0, .int 0, .int 0, .int 0, .int 0, .null, .int 0, .int 0, .int 0, .int 0, .int 0, .null, .int 0]))] ++ T_30) H_384 := hP_386
  clear hP_386
  have hD_390 : va_D A ([(h0, .inr (11, [.ref q1, .ref q2, .ref q3, .ref q4, .ref q5, .ref q6, .ref q7, .int 0, .int 0, .ref q8, .int 0, .int 0, .int 0, .int 0, .int 0, .int 0, .int 0, .int 0, .int 0, .ref q9, .ref q10, .ref q11, .ref q12, .ref q13, .ref q14, .ref q15, .ref q16, .ref q17, .ref q18, .ref q19, .ref q20, .ref q21, .ref q22, .ref q23, .ref q24, .int 0, .ref q25, .ref q26, .ref q27, .ref q28, .ref q29, .ref q30, .null, .int 0, .int 0, .int 0, .int 0, .int 0, .int 0, .int 0, .null, .int 0, .int 0, .int 0, .int 0, .int 0, .null, .int 0]))] ++ T_30) := hD_387
  clear hD_387
  refine lv_aload_n hx hb di_Model_259 rfl (lv_at hl 0 rfl) ?_
  refine lv_sipush (v := 1681) hx hb di_Model_260 (by decide) ?_
  refine va_newa (atype := .int) (a0 := (1681, .inl (fun _ => 0))) hx hb (hts _ dh_w_aI) rfl hK hP_389 hD_390 hS_388 hA (fun _ => rfl) (by decide) (by decide) (by decide) (Nat.le_of_ble_eq_true rfl) (Nat.le_of_ble_eq_true rfl) di_Model_263 (fun q31 cA H_391 hK1 hP_392 hD_393 hS_394 => ?_)
  clear hP_389 hD_390 hS_388
  obtain rfl := dh_ta1 hK1
  clear hK1
  have hPj : va_P D vwCl ([(h0, .inr (11, [.ref q1, .ref q2, .ref q3, .ref q4, .ref q5, .ref q6, .ref q7, .int 0, .int 0, .ref q8, .int 0, .int 0, .int 0, .int 0, .int 0, .int 0, .int 0, .int 0, .int 0, .ref q9, .ref q10, .ref q11, .ref q12, .ref q13, .ref q14, .ref q15, .ref q16, .ref q17, .ref q18, .ref q19, .ref q20, .ref q21, .ref q22, .ref q23, .ref q24, .int 0, .ref q25, .ref q26, .ref q27, .ref q28, .ref q29, .ref q30, .null, .int 0, .int 0, .int 0, .int 0, .int 0, .int 0, .int 0, .null, .int 0, .int 0, .int 0, .int 0, .int 0, .null, .int 0]))] ++ (T_30 ++ [(q31, .inl (ta 1, (1681, .inl (fun _ => 0))))])) H_391 := by rw [← List.append_assoc]; exact hP_392
  have hDj : va_D A ([(h0, .inr (11, [.ref q1, .ref q2, .ref q3, .ref q4, .ref q5, .ref q6, .ref q7, .int 0, .int 0, .ref q8, .int 0, .int 0, .int 0, .int 0, .int 0, .int 0, .int 0, .int 0, .int 0, .ref q9, .ref q10, .ref q11, .ref q12, .ref q13, .ref q14, .ref q15, .ref q16, .ref q17, .ref q18, .ref q19, .ref q20, .ref q21, .ref q22, .ref q23, .ref q24, .int 0, .ref q25, .ref q26, .ref q27, .ref q28, .ref q29, .ref q30, .null, .int 0, .int 0, .int 0, .int 0, .int 0, .int 0, .int 0, .null, .int 0, .int 0, .int 0, .int 0, .int 0, .null, .int 0]))] ++ (T_30 ++ [(q31, .inl (ta 1, (1681, .inl (fun _ => 0))))])) := by rw [← List.append_assoc]; exact hD_393
  clear hP_392 hD_393
  obtain ⟨T_31, eT_31⟩ : ∃ z, z = T_30 ++ [(q31, .inl (ta 1, (1681, .inl (fun _ => 0))))] := ⟨_, rfl⟩
  rw [← eT_31] at hPj hDj
  have hP_395 := hPj
  have hD_396 := hDj
  clear hPj hDj
  refine W.widen (k := 31) (n := 98867) (Nat.le_of_ble_eq_true rfl) (Nat.le_of_ble_eq_true rfl) ?_
  refine va_putF (D := D) (ci := 11) (v := .ref q31) (ty := .array .int) (C := RX11) (T := TX11) (N := 58) hx hb hts dh_u11 tyX11 tyX11_ok nmX11 hown hK hP_395 hD_396 hS_394 0 rfl rfl 42 (by decide) (hts (.fieldLink RX11 104 RX11 "hopeChild" "[I") (dh_has_in (i := 1153) (by decide +kernel))) (fun _ h9 => h9) rfl hin rfl (by decide +kernel) rfl rfl (Nat.le_of_ble_eq_true rfl) di_Model_265 (fun H_397 locs_398 hP_399 hD_400 hS_401 => ?_)
  clear hP_395 hD_396 hS_394
  have hP_402 : va_P D vwCl ([(h0, .inr (11, [.ref q1, .ref q2, .ref q3, .ref q4, .ref q5, .ref q6, .ref q7, .int 0, .int 0, .ref q8, .int 0, .int 0, .int 0, .int 0, .int 0, .int 0, .int 0, .int 0, .int 0, .ref q9, .ref q10, .ref q11, .ref q12, .ref q13, .ref q14, .ref q15, .ref q16, .ref q17, .ref q18, .ref q19, .ref q20, .ref q21, .ref q22, .ref q23, .ref q24, .int 0, .ref q25, .ref q26, .ref q27, .ref q28, .ref q29, .ref q30, .ref q31, .int 0, .int 0, .int 0, .int 0, .int 0, .int 0, .int 0, .null, .int 0, .int 0, .int 0, .int 0, .int 0, .null, .int 0]))] ++ T_31) H_397 := hP_399
  clear hP_399
  have hD_403 : va_D A ([(h0, .inr (11, [.ref q1, .ref q2, .ref q3, .ref q4, .ref q5, .ref q6, .ref q7, .int 0, .int 0, .ref q8, .int 0, .int 0, .int 0, .int 0, .int 0, .int 0, .int 0, .int 0, .int 0, .ref q9, .ref q10, .ref q11, .ref q12, .ref q13, .ref q14, .ref q15, .ref q16, .ref q17, .ref q18, .ref q19, .ref q20, .ref q21, .ref q22, .ref q23, .ref q24, .int 0, .ref q25, .ref q26, .ref q27, .ref q28, .ref q29, .ref q30, .ref q31, .int 0, .int 0, .int 0, .int 0, .int 0, .int 0, .int 0, .null, .int 0, .int 0, .int 0, .int 0, .int 0, .null, .int 0]))] ++ T_31) := hD_400
  clear hD_400
  refine lv_aload_n hx hb di_Model_268 rfl (lv_at hl 0 rfl) ?_
  refine lv_iconst (v := 1) hx hb di_Model_269 (by decide) ?_
  refine va_put (D := D) (ci := 11) (v := .int 1) (ty := .int) (C := RX11) (T := TX11) (N := 58) hx hb hts dh_u11 tyX11 tyX11_ok nmX11 hown hK hP_402 hD_403 hS_401 0 rfl rfl 49 (by decide) (hts (.fieldLink RX11 107 RX11 "lot" "I") (dh_has_in (i := 1160) (by decide +kernel))) (fun _ h9 => h9) rfl (by decide +kernel) rfl rfl (Nat.le_of_ble_eq_true rfl) di_Model_270 (fun H_404 locs_405 hP_406 hD_407 hS_408 => ?_)
  clear hP_402 hD_403 hS_401
  have hP_409 : va_P D vwCl ([(h0, .inr (11, [.ref q1, .ref q2, .ref q3, .ref q4, .ref q5, .ref q6, .ref q7, .int 0, .int 0, .ref q8, .int 0, .int 0, .int 0, .int 0, .int 0, .int 0, .int 0, .int 0, .int 0, .ref q9, .ref q10, .ref q11, .ref q12, .ref q13, .ref q14, .ref q15, .ref q16, .ref q17, .ref q18, .ref q19, .ref q20, .ref q21, .ref q22, .ref q23, .ref q24, .int 0, .ref q25, .ref q26, .ref q27, .ref q28, .ref q29, .ref q30, .ref q31, .int 0, .int 0, .int 0, .int 0, .int 0, .int 0, .int 1, .null, .int 0, .int 0, .int 0, .int 0, .int 0, .null, .int 0]))] ++ T_31) H_404 := hP_406
  clear hP_406
  have hD_410 : va_D A ([(h0, .inr (11, [.ref q1, .ref q2, .ref q3, .ref q4, .ref q5, .ref q6, .ref q7, .int 0, .int 0, .ref q8, .int 0, .int 0, .int 0, .int 0, .int 0, .int 0, .int 0, .int 0, .int 0, .ref q9, .ref q10, .ref q11, .ref q12, .ref q13, .ref q14, .ref q15, .ref q16, .ref q17, .ref q18, .ref q19, .ref q20, .ref q21, .ref q22, .ref q23, .ref q24, .int 0, .ref q25, .ref q26, .ref q27, .ref q28, .ref q29, .ref q30, .ref q31, .int 0, .int 0, .int 0, .int 0, .int 0, .int 0, .int 1, .null, .int 0, .int 0, .int 0, .int 0, .int 0, .null, .int 0]))] ++ T_31) := hD_407
  clear hD_407
  refine lv_aload_n hx hb di_Model_273 rfl (lv_at hl 0 rfl) ?_
  refine lv_bipush (v := 40) hx hb di_Model_274 (by decide) ?_
  refine va_newa (atype := .int) (a0 := (40, .inl (fun _ => 0))) hx hb (hts _ dh_w_aI) rfl hK hP_409 hD_410 hS_408 hA (fun _ => rfl) (by decide) (by decide) (by decide) (Nat.le_of_ble_eq_true rfl) (Nat.le_of_ble_eq_true rfl) di_Model_276 (fun q32 cA H_411 hK1 hP_412 hD_413 hS_414 => ?_)
  clear hP_409 hD_410 hS_408
  obtain rfl := dh_ta1 hK1
  clear hK1
  have hPj : va_P D vwCl ([(h0, .inr (11, [.ref q1, .ref q2, .ref q3, .ref q4, .ref q5, .ref q6, .ref q7, .int 0, .int 0, .ref q8, .int 0, .int 0, .int 0, .int 0, .int 0, .int 0, .int 0, .int 0, .int 0, .ref q9, .ref q10, .ref q11, .ref q12, .ref q13, .ref q14, .ref q15, .ref q16, .ref q17, .ref q18, .ref q19, .ref q20, .ref q21, .ref q22, .ref q23, .ref q24, .int 0, .ref q25, .ref q26, .ref q27, .ref q28, .ref q29, .ref q30, .ref q31, .int 0, .int 0, .int 0, .int 0, .int 0, .int 0, .int 1, .null, .int 0, .int 0, .int 0, .int 0, .int 0, .null, .int 0]))] ++ (T_31 ++ [(q32, .inl (ta 1, (40, .inl (fun _ => 0))))])) H_411 := by rw [← List.append_assoc]; exact hP_412
  have hDj : va_D A ([(h0, .inr (11, [.ref q1, .ref q2, .ref q3, .ref q4, .ref q5, .ref q6, .ref q7, .int 0, .int 0, .ref q8, .int 0, .int 0, .int 0, .int 0, .int 0, .int 0, .int 0, .int 0, .int 0, .ref q9, .ref q10, .ref q11, .ref q12, .ref q13, .ref q14, .ref q15, .ref q16, .ref q17, .ref q18, .ref q19, .ref q20, .ref q21, .ref q22, .ref q23, .ref q24, .int 0, .ref q25, .ref q26, .ref q27, .ref q28, .ref q29, .ref q30, .ref q31, .int 0, .int 0, .int 0, .int 0, .int 0, .int 0, .int 1, .null, .int 0, .int 0, .int 0, .int 0, .int 0, .null, .int 0]))] ++ (T_31 ++ [(q32, .inl (ta 1, (40, .inl (fun _ => 0))))])) := by rw [← List.append_assoc]; exact hD_413
  clear hP_412 hD_413
  obtain ⟨T_32, eT_32⟩ : ∃ z, z = T_31 ++ [(q32, .inl (ta 1, (40, .inl (fun _ => 0))))] := ⟨_, rfl⟩
  rw [← eT_32] at hPj hDj
  have hP_415 := hPj
  have hD_416 := hDj
  clear hPj hDj
  refine W.widen (k := 32) (n := 98907) (Nat.le_of_ble_eq_true rfl) (Nat.le_of_ble_eq_true rfl) ?_
  refine va_putF (D := D) (ci := 11) (v := .ref q32) (ty := .array .int) (C := RX11) (T := TX11) (N := 58) hx hb hts dh_u11 tyX11 tyX11_ok nmX11 hown hK hP_415 hD_416 hS_414 0 rfl rfl 50 (by decide) (hts (.fieldLink RX11 111 RX11 "stoveTake" "[I") (dh_has_in (i := 1161) (by decide +kernel))) (fun _ h9 => h9) rfl hin rfl (by decide +kernel) rfl rfl (Nat.le_of_ble_eq_true rfl) di_Model_278 (fun H_417 locs_418 hP_419 hD_420 hS_421 => ?_)
  clear hP_415 hD_416 hS_414
  have hP_422 : va_P D vwCl ([(h0, .inr (11, [.ref q1, .ref q2, .ref q3, .ref q4, .ref q5, .ref q6, .ref q7, .int 0, .int 0, .ref q8, .int 0, .int 0, .int 0, .int 0, .int 0, .int 0, .int 0, .int 0, .int 0, .ref q9, .ref q10, .ref q11, .ref q12, .ref q13, .ref q14, .ref q15, .ref q16, .ref q17, .ref q18, .ref q19, .ref q20, .ref q21, .ref q22, .ref q23, .ref q24, .int 0, .ref q25, .ref q26, .ref q27, .ref q28, .ref q29, .ref q30, .ref q31, .int 0, .int 0, .int 0, .int 0, .int 0, .int 0, .int 1, .ref q32, .int 0, .int 0, .int 0, .int 0, .int 0, .null, .int 0]))] ++ T_32) H_417 := hP_419
  clear hP_419
  have hD_423 : va_D A ([(h0, .inr (11, [.ref q1, .ref q2, .ref q3, .ref q4, .ref q5, .ref q6, .ref q7, .int 0, .int 0, .ref q8, .int 0, .int 0, .int 0, .int 0, .int 0, .int 0, .int 0, .int 0, .int 0, .ref q9, .ref q10, .ref q11, .ref q12, .ref q13, .ref q14, .ref q15, .ref q16, .ref q17, .ref q18, .ref q19, .ref q20, .ref q21, .ref q22, .ref q23, .ref q24, .int 0, .ref q25, .ref q26, .ref q27, .ref q28, .ref q29, .ref q30, .ref q31, .int 0, .int 0, .int 0, .int 0, .int 0, .int 0, .int 1, .ref q32, .int 0, .int 0, .int 0, .int 0, .int 0, .null, .int 0]))] ++ T_32) := hD_420
  clear hD_420
  refine lv_aload_n hx hb di_Model_281 rfl (lv_at hl 0 rfl) ?_
  refine lv_bipush (v := 40) hx hb di_Model_282 (by decide) ?_
  refine va_newa (atype := .int) (a0 := (40, .inl (fun _ => 0))) hx hb (hts _ dh_w_aI) rfl hK hP_422 hD_423 hS_421 hA (fun _ => rfl) (by decide) (by decide) (by decide) (Nat.le_of_ble_eq_true rfl) (Nat.le_of_ble_eq_true rfl) di_Model_284 (fun q33 cA H_424 hK1 hP_425 hD_426 hS_427 => ?_)
  clear hP_422 hD_423 hS_421
  obtain rfl := dh_ta1 hK1
  clear hK1
  have hPj : va_P D vwCl ([(h0, .inr (11, [.ref q1, .ref q2, .ref q3, .ref q4, .ref q5, .ref q6, .ref q7, .int 0, .int 0, .ref q8, .int 0, .int 0, .int 0, .int 0, .int 0, .int 0, .int 0, .int 0, .int 0, .ref q9, .ref q10, .ref q11, .ref q12, .ref q13, .ref q14, .ref q15, .ref q16, .ref q17, .ref q18, .ref q19, .ref q20, .ref q21, .ref q22, .ref q23, .ref q24, .int 0, .ref q25, .ref q26, .ref q27, .ref q28, .ref q29, .ref q30, .ref q31, .int 0, .int 0, .int 0, .int 0, .int 0, .int 0, .int 1, .ref q32, .int 0, .int 0, .int 0, .int 0, .int 0, .null, .int 0]))] ++ (T_32 ++ [(q33, .inl (ta 1, (40, .inl (fun _ => 0))))])) H_424 := by rw [← List.append_assoc]; exact hP_425
  have hDj : va_D A ([(h0, .inr (11, [.ref q1, .ref q2, .ref q3, .ref q4, .ref q5, .ref q6, .ref q7, .int 0, .int 0, .ref q8, .int 0, .int 0, .int 0, .int 0, .int 0, .int 0, .int 0, .int 0, .int 0, .ref q9, .ref q10, .ref q11, .ref q12, .ref q13, .ref q14, .ref q15, .ref q16, .ref q17, .ref q18, .ref q19, .ref q20, .ref q21, .ref q22, .ref q23, .ref q24, .int 0, .ref q25, .ref q26, .ref q27, .ref q28, .ref q29, .ref q30, .ref q31, .int 0, .int 0, .int 0, .int 0, .int 0, .int 0, .int 1, .ref q32, .int 0, .int 0, .int 0, .int 0, .int 0, .null, .int 0]))] ++ (T_32 ++ [(q33, .inl (ta 1, (40, .inl (fun _ => 0))))])) := by rw [← List.append_assoc]; exact hD_426
  clear hP_425 hD_426
  obtain ⟨T_33, eT_33⟩ : ∃ z, z = T_32 ++ [(q33, .inl (ta 1, (40, .inl (fun _ => 0))))] := ⟨_, rfl⟩
  rw [← eT_33] at hPj hDj
  have hP_428 := hPj
  have hD_429 := hDj
  clear hPj hDj
  refine W.widen (k := 33) (n := 98947) (Nat.le_of_ble_eq_true rfl) (Nat.le_of_ble_eq_true rfl) ?_
  refine va_putF (D := D) (ci := 11) (v := .ref q33) (ty := .array .int) (C := RX11) (T := TX11) (N := 58) hx hb hts dh_u11 tyX11 tyX11_ok nmX11 hown hK hP_428 hD_429 hS_427 0 rfl rfl 56 (by decide) (hts (.fieldLink RX11 114 RX11 "keptTake" "[I") (dh_has_in (i := 1167) (by decide +kernel))) (fun _ h9 => h9) rfl hin rfl (by decide +kernel) rfl rfl (Nat.le_of_ble_eq_true rfl) di_Model_286 (fun H_430 locs_431 hP_432 hD_433 hS_434 => ?_)
  clear hP_428 hD_429 hS_427
  have hP_435 : va_P D vwCl ([(h0, .inr (11, [.ref q1, .ref q2, .ref q3, .ref q4, .ref q5, .ref q6, .ref q7, .int 0, .int 0, .ref q8, .int 0, .int 0, .int 0, .int 0, .int 0, .int 0, .int 0, .int 0, .int 0, .ref q9, .ref q10, .ref q11, .ref q12, .ref q13, .ref q14, .ref q15, .ref q16, .ref q17, .ref q18, .ref q19, .ref q20, .ref q21, .ref q22, .ref q23, .ref q24, .int 0, .ref q25, .ref q26, .ref q27, .ref q28, .ref q29, .ref q30, .ref q31, .int 0, .int 0, .int 0, .int 0, .int 0, .int 0, .int 1, .ref q32, .int 0, .int 0, .int 0, .int 0, .int 0, .ref q33, .int 0]))] ++ T_33) H_430 := hP_432
  clear hP_432
  have hD_436 : va_D A ([(h0, .inr (11, [.ref q1, .ref q2, .ref q3, .ref q4, .ref q5, .ref q6, .ref q7, .int 0, .int 0, .ref q8, .int 0, .int 0, .int 0, .int 0, .int 0, .int 0, .int 0, .int 0, .int 0, .ref q9, .ref q10, .ref q11, .ref q12, .ref q13, .ref q14, .ref q15, .ref q16, .ref q17, .ref q18, .ref q19, .ref q20, .ref q21, .ref q22, .ref q23, .ref q24, .int 0, .ref q25, .ref q26, .ref q27, .ref q28, .ref q29, .ref q30, .ref q31, .int 0, .int 0, .int 0, .int 0, .int 0, .int 0, .int 1, .ref q32, .int 0, .int 0, .int 0, .int 0, .int 0, .ref q33, .int 0]))] ++ T_33) := hD_433
  clear hD_433
  have eAll : dh_sg ta sg_Model dh_r2 (h0 :: [q1, q2, q3, q4, q5, q6, q7, q8, q9, q10, q11, q12, q13, q14, q15, q16, q17, q18, q19, q20, q21, q22, q23, q24, q25, q26, q27, q28, q29, q30, q31, q32, q33]) = ([(h0, .inr (11, [.ref q1, .ref q2, .ref q3, .ref q4, .ref q5, .ref q6, .ref q7, .int 0, .int 0, .ref q8, .int 0, .int 0, .int 0, .int 0, .int 0, .int 0, .int 0, .int 0, .int 0, .ref q9, .ref q10, .ref q11, .ref q12, .ref q13, .ref q14, .ref q15, .ref q16, .ref q17, .ref q18, .ref q19, .ref q20, .ref q21, .ref q22, .ref q23, .ref q24, .int 0, .ref q25, .ref q26, .ref q27, .ref q28, .ref q29, .ref q30, .ref q31, .int 0, .int 0, .int 0, .int 0, .int 0, .int 0, .int 1, .ref q32, .int 0, .int 0, .int 0, .int 0, .int 0, .ref q33, .int 0]))] ++ T_33) := by
    rw [dm_all]
    refine congrArg (List.cons _) ?_
    rw [eT_33, eT_32, eT_31, eT_30, eT_29, eT_28, eT_27, eT_26, eT_25, eT_24, eT_23, eT_22, eT_21, eT_20, eT_19, eT_18, eT_17, eT_16, eT_15, eT_14, eT_13, eT_12, eT_11, eT_10, eT_9, eT_8, eT_7, eT_6, eT_5, eT_4, eT_3, eT_2, eT_1, eT_0]
    simp only [List.nil_append, List.append_assoc, List.cons_append]
    rfl
  have hP9 : va_P D vwCl (dh_sg ta sg_Model dh_r2 (h0 :: [q1, q2, q3, q4, q5, q6, q7, q8, q9, q10, q11, q12, q13, q14, q15, q16, q17, q18, q19, q20, q21, q22, q23, q24, q25, q26, q27, q28, q29, q30, q31, q32, q33])) H_430 := by rw [eAll]; exact hP_435
  have hD9 : va_D A (dh_sg ta sg_Model dh_r2 (h0 :: [q1, q2, q3, q4, q5, q6, q7, q8, q9, q10, q11, q12, q13, q14, q15, q16, q17, q18, q19, q20, q21, q22, q23, q24, q25, q26, q27, q28, q29, q30, q31, q32, q33])) := by rw [eAll]; exact hD_436
  refine W.widen (k := 33) (n := 98947) (Nat.le_of_ble_eq_true rfl) (Nat.le_of_ble_eq_true rfl) ?_
  exact W.vret hx hb hr (fun t ht hW => ⟨⟨[q1, q2, q3, q4, q5, q6, q7, q8, q9, q10, q11, q12, q13, q14, q15, q16, q17, q18, q19, q20, q21, q22, q23, q24, q25, q26, q27, q28, q29, q30, q31, q32, q33], rfl, rfl, by rw [ht]; exact hP9, hD9⟩, hS_434.F ht⟩) hS_434.2.2 di_Model_289
