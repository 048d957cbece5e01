/-! ===== the constructors, by the kit's rows; first the rows on new T[n][m] that the claim's own names print, with the word that they want ===== -/
def va_AOA (t : FieldType) (U : State) : Prop := (Cond.arrayOver (.array t)).before #[] U = true
theorem va_AOA.use {t : FieldType} {A : Array Value} {U : State} (h : va_AOA t U) : (Cond.arrayOver (.array t)).before A U = true := h
theorem va_AOA.moved {t : FieldType} {u U : State} (hvm : u.vm.Alike U.vm) (h : va_AOA t u) : va_AOA t U := by
  obtain ⟨comp, c, k, h1, h2, h3, h4, h5⟩ := arrayOverA_spec h
  obtain ⟨k', hk', he⟩ := hvm.2.2 _ _ h3
  have hi : (U.vm.classes.findIdx? fun (x : Class) => match x.kind with | .array component _ => component == comp | _ => false) = some c := by
    have e1 := va_idx_bare U.vm comp
    have e2 := va_idx_bare u.vm comp
    first | rw [hvm.bare_eq] at e1 | rw [← hvm.bare_eq] at e1
    exact e1.symm.trans (e2.trans h2)
  have hkind : k'.kind = .array comp (.array t) := by rw [he]; exact h4
  have f1 : U.vm.findClass (FieldType.array t).toString = some comp := by rw [hvm.findClass]; exact h1
  have f2 : U.vm.findClass ("[" ++ (FieldType.array t).toString) = some c := by rw [hvm.findClass]; exact h5
  unfold va_AOA Cond.before Cond.holds
  simp only [Cond.value]
  rw [f1, Option.bind_some]
  refine (congrArg (fun o : Option Nat => (o.bind (fun c => (U.vm.classes[c]?).map fun (k : Class) => match k.kind with | .array _ ty => decide (ty = FieldType.array t) && decide (U.vm.findClass ("[" ++ (FieldType.array t).toString) = some c) | _ => false) == some true)) hi).trans ?_
  simp [hk', hkind, f2]
/-! ===== BEGIN new T[n][m]: the outer array a place, the inner ones among the pooled ===== -/
/-- f, but v at every address of l -/
def vr_up {α : Type} (f : Nat → α) (l : List Nat) (v : α) : Nat → α := fun a => if a ∈ l then v else f a
theorem vr_up_in {α : Type} {f : Nat → α} {l : List Nat} {v : α} {a : Nat} (h : a ∈ l) : vr_up f l v a = v := if_pos h
theorem vr_up_ne {α : Type} {f : Nat → α} {l : List Nat} {v : α} {a : Nat} (h : a ∉ l) : vr_up f l v a = f a := if_neg h
theorem vr_rows {L l : List Nat} {f : Nat → va_E} {e : va_E} (h : ∀ a, a ∈ l → a ∉ L) : va_pl L f ++ l.map (fun a => (a, e)) = va_pl (L ++ l) (vr_up f l e) := by
  unfold va_pl
  rw [List.map_append]
  congr 1
  · apply List.map_congr_left
    intro a ha
    rw [vr_up_ne (fun q => h a q ha)]
  · apply List.map_congr_left
    intro a ha
    rw [vr_up_in ha]
theorem vr_lay {X rows : va_W} {x : Nat × va_E} {pl : va_W} {D : va_G} {cl : List vw_C} {H : Heap} (hP : va_P D cl (((X ++ pl) ++ [x]) ++ rows) H) : va_P D cl ((X ++ [x]) ++ (pl ++ rows)) H := by
  rw [List.append_assoc (X ++ pl)] at hP
  have h := va_P.swap hP
  rw [← List.append_assoc X] at h
  have h2 := va_P.swap h
  rw [List.append_assoc (X ++ [x])] at h2
  exact h2
theorem vr_layD {X rows : va_W} {x : Nat × va_E} {pl : va_W} {A : Nat → Prop} (hD : va_D A (((X ++ pl) ++ [x]) ++ rows)) : va_D A ((X ++ [x]) ++ (pl ++ rows)) := by
  rw [List.append_assoc (X ++ pl)] at hD
  have h := va_D.swap hD
  rw [← List.append_assoc X] at h
  have h2 := va_D.swap h
  rw [List.append_assoc (X ++ [x])] at h2
  exact h2
theorem vr_outer (c : ClassId) (N h0 : Nat) : ∀ i : Nat, Jvm.Free.Multi.outerC c N h0 i = arrV c N (fun j => va_rf (if j < i then some (h0 + 1 + j) else none))
  | 0 => by
    show ({ cls := c, slots := Array.replicate N .null, vm := .none } : Cell) = _
    rw [arrV_new]
    refine congrArg (arrV c N) (funext fun j => ?_)
    simp [va_rf]
  | i + 1 => by
    show (Jvm.Free.Multi.outerC c N h0 i).setSlot i (.ref (h0 + 1 + i)) = _
    rw [vr_outer c N h0 i, arrV_store]
    refine congrArg (arrV c N) (funext fun j => ?_)
    by_cases e : j = i
    · subst e
      simp [updV, va_rf]
    · by_cases h : j < i
      · simp [updV, e, h, Nat.lt_succ_of_lt h]
      · simp [updV, e, h, show ¬ j < i + 1 by omega]
section VGM
variable {p : Program} {l : Launch} {e : Env} {R : Room} {s : State} {m : MethodId} {args : Array Value} {below : List Frame} {meth : Method} {c : Code} {H : Heap} {locs : List Loc} {cells slots : Nat} {Q : State → Prop}
variable {cc : ByteArray} {pc : Nat} {ls : Array Slot} {rest : List Value} {D : va_G} {cl : List vw_C} {A : Nat → Prop} {a : Nat} {tys : List (ClassId × FieldType)} {ws : va_W} {H0 : Heap}
theorem va_mna {X : va_W} {L : List Nat} {f : Nat → va_E} {cc : ByteArray} (hexec : p.tables.exec = Jvm.exec) (hb : c.code = cc) {own : String} {index : Nat} {ty : FieldType} {cy : ClassId} (hown : s.vm.findClass own = some m.cls) (hclink : (Cond.classLink own index ("[" ++ (FieldType.array ty).toString)).before args s = true) (hover : va_AOA ty s) (harr : (Cond.arrayClass ty).before args s = true) (hcy : s.vm.findClass (FieldType.array ty).toString = some cy)
    (hK : va_K D cl tys s) (hP : va_P D cl (X ++ va_pl L f) H) (hD : va_D A (X ++ va_pl L f)) (hS : va_S A H0 H locs) (hA : ∀ q, H0.size ≤ q → A q) {n k : Int32} {N' K' : Nat} {z : vp_A} (hn : ¬ n < 0) (hk : ¬ k < 0) (hN : n.toNatClampNeg = N') (hM : k.toNatClampNeg = K')
    (hb1 : N' * 4 ≤ 536870912) (hb2 : K' * componentBytes ty ≤ 536870912) (hb3 : K' ≤ 536870912) (hdf : fits ty (defaultValue ty) = true) (hdd : (defaultValue ty).isDefault = true) (hcells : cells + (1 + N') ≤ R.cells) (hslots : slots + (N' + N' * K') ≤ R.slots) (hz : ∀ c : ClassId, Jvm.Free.Multi.innerC c K' (defaultValue ty) = vp_cell c z) (hdg : decode cc pc = .ok (.multianewarray index 2, 4))
    (kk : ∀ (q : Nat) (r : Nat → Nat) (cA : ClassId) (H1 : Heap), (∀ i j : Nat, i < N' → j < N' → r i = r j → i = j) → (∀ i : Nat, i < N' → r i ∉ L) → va_K D cl (tys ++ [(cA, .array ty)]) s →
      va_P D cl ((X ++ [(q, .inl (cA, N', .inr (.inr (.inr (.inr (fun i => if i < N' then some (r i) else none))))))]) ++ va_pl (L ++ (List.range N').map r) (vr_up f ((List.range N').map r) (.inl (cy, z)))) H1 → va_D A ((X ++ [(q, .inl (cA, N', .inr (.inr (.inr (.inr (fun i => if i < N' then some (r i) else none))))))]) ++ va_pl (L ++ (List.range N').map r) (vr_up f ((List.range N').map r) (.inl (cy, z)))) → va_S A H0 H1 locs →
      W p l e R s m args below meth c H1 locs (cells + 1 + N') (slots + N' + N' * K') Q (F0 m (pc + 4) ls (.ref q :: rest))) : W p l e R s m args below meth c H locs cells slots Q (F0 m pc ls (.int k :: .int n :: rest)) := by
  subst hN
  subst hM
  intro T hT Xs
  obtain ⟨vm₁, cA, comp, -, fA, fC, hO, -, X', step⟩ := Xs.multianewarray2F hexec hown hclink (va_AOA.use hover) harr (g := F0 m pc ls (.int k :: .int n :: rest)) rfl (by rw [hb]; exact hdg) rfl hn hk hb1 hb2 hb3 hdf hdd hcells hslots
  have ec : some cy = some comp := hcy.symm.trans fC
  cases ec
  generalize hF : Jvm.Free.Multi.fill (T.setVm vm₁) cA cy n.toNatClampNeg k.toNatClampNeg (defaultValue ty) n.toNatClampNeg = F at X' step
  have hTh : (T.setVm vm₁).heap = H := hT
  obtain ⟨f1, f2, -, -⟩ := Jvm.Free.Multi.fill_facts (T.setVm vm₁) cA cy n.toNatClampNeg k.toNatClampNeg (defaultValue ty) n.toNatClampNeg
  rw [hF, hTh] at f1 f2
  have hold : ∀ x : Nat, x < H.size → F.heap[x]? = H[x]? := fun x hx => by
    have := Jvm.Free.Multi.fill_old (T.setVm vm₁) cA cy n.toNatClampNeg k.toNatClampNeg (defaultValue ty) (a := x) (by rw [hTh]; exact hx) n.toNatClampNeg
    rw [hF, hTh] at this
    exact this
  have hrow : ∀ j : Nat, j < n.toNatClampNeg → F.heap[H.size + 1 + j]? = some (vp_cell cy z) := fun j hj => by
    have := Jvm.Free.Multi.fill_inner (T.setVm vm₁) cA cy n.toNatClampNeg k.toNatClampNeg (defaultValue ty) n.toNatClampNeg j hj
    rw [hF, hTh, hz] at this
    exact this
  have hout : Jvm.Free.Multi.outerC cA n.toNatClampNeg H.size n.toNatClampNeg = vp_cell cA (n.toNatClampNeg, .inr (.inr (.inr (.inr (fun i => if i < n.toNatClampNeg then some (H.size + 1 + i) else none))))) := by
    rw [vp_cell_q]
    exact vr_outer cA n.toNatClampNeg H.size n.toNatClampNeg
  rw [hout] at f2
  have hlt : ∀ a, a ∈ L → a < H.size := fun a ha => by
    obtain ⟨k9, hk9⟩ := va_pl_get (X := X) (f := f) ha
    exact (hP k9 _ hk9).lt
  have hnl : ∀ i : Nat, i < n.toNatClampNeg → H.size + 1 + i ∉ L := fun i _ h => by
    have := hlt _ h
    omega
  have hnm : ∀ a, a ∈ (List.range n.toNatClampNeg).map (fun i => H.size + 1 + i) → a ∉ L := fun a ha h => by
    obtain ⟨i, -, rfl⟩ := List.mem_map.mp ha
    have := hlt _ h
    omega
  have hP0 : va_P D cl (X ++ va_pl L f) F.heap := hP.kept (fun k9 x hx => hold x.1 ((hP k9 x hx).lt))
  have hP1 : va_P D cl ((X ++ va_pl L f) ++ [(H.size, .inl (cA, n.toNatClampNeg, .inr (.inr (.inr (.inr (fun i => if i < n.toNatClampNeg then some (H.size + 1 + i) else none))))))]) F.heap := hP0.app (fun k9 x hx => by
    have h0 : k9 < 1 := (List.getElem?_eq_some_iff.mp hx).1
    rw [show k9 = 0 by omega] at hx
    cases hx
    exact f2)
  have hP2 : va_P D cl (((X ++ va_pl L f) ++ [(H.size, .inl (cA, n.toNatClampNeg, .inr (.inr (.inr (.inr (fun i => if i < n.toNatClampNeg then some (H.size + 1 + i) else none))))))]) ++ ((List.range n.toNatClampNeg).map (fun i => H.size + 1 + i)).map (fun a => (a, .inl (cy, z)))) F.heap := hP1.app (fun k9 x hx => by
    obtain ⟨a, ha, rfl⟩ := List.mem_map.mp (List.mem_of_getElem? hx)
    obtain ⟨i, hi, rfl⟩ := List.mem_map.mp ha
    exact hrow i (List.mem_range.mp hi))
  have hD2 : va_D A (((X ++ va_pl L f) ++ [(H.size, .inl (cA, n.toNatClampNeg, .inr (.inr (.inr (.inr (fun i => if i < n.toNatClampNeg then some (H.size + 1 + i) else none))))))]) ++ ((List.range n.toNatClampNeg).map (fun i => H.size + 1 + i)).map (fun a => (a, .inl (cy, z)))) := by
    have hD1 := hD.push (e := .inl (cA, n.toNatClampNeg, .inr (.inr (.inr (.inr (fun i => if i < n.toNatClampNeg then some (H.size + 1 + i) else none)))))) hP rfl (hA _ hS.1)
    generalize hW1 : (X ++ va_pl L f) ++ [(H.size, .inl (cA, n.toNatClampNeg, .inr (.inr (.inr (.inr (fun i => if i < n.toNatClampNeg then some (H.size + 1 + i) else none))))))] = W1 at hD1 hP1 ⊢
    have hle : ∀ (k9 : Nat) (x : Nat × va_E), W1[k9]? = some x → x.1 ≤ H.size := fun k9 x hx => by
      rw [← hW1] at hx
      by_cases hl : k9 < (X ++ va_pl L f).length
      · rw [List.getElem?_append_left hl] at hx
        exact Nat.le_of_lt ((hP k9 x hx).lt)
      · rw [List.getElem?_append_right (by omega)] at hx
        have h0 : k9 - (X ++ va_pl L f).length < 1 := (List.getElem?_eq_some_iff.mp hx).1
        rw [show k9 - (X ++ va_pl L f).length = 0 by omega] at hx
        cases hx
        exact Nat.le_refl _
    have hr : ∀ (k9 : Nat) (x : Nat × va_E), (((List.range n.toNatClampNeg).map (fun i => H.size + 1 + i)).map (fun a => ((a, .inl (cy, z)) : Nat × va_E)))[k9]? = some x → x.1 = H.size + 1 + k9 := fun k9 x hx => by
      rw [List.getElem?_map, List.getElem?_map] at hx
      by_cases h9 : k9 < n.toNatClampNeg
      · rw [List.getElem?_range h9] at hx
        cases hx
        rfl
      · have hn0 : (List.range n.toNatClampNeg)[k9]? = none := List.getElem?_eq_none (by rw [List.length_range]; omega)
        rw [hn0] at hx
        cases hx
    refine ⟨fun i j x y hi hj hxy => ?_, fun k9 x hx => ?_⟩
    · by_cases h1 : i < W1.length <;> by_cases h2 : j < W1.length
      · rw [List.getElem?_append_left h1] at hi
        rw [List.getElem?_append_left h2] at hj
        exact hD1.1 i j x y hi hj hxy
      · rw [List.getElem?_append_left h1] at hi
        rw [List.getElem?_append_right (by omega)] at hj
        have := hle _ _ hi
        have := hr _ _ hj
        omega
      · rw [List.getElem?_append_right (by omega)] at hi
        rw [List.getElem?_append_left h2] at hj
        have := hle _ _ hj
        have := hr _ _ hi
        omega
      · rw [List.getElem?_append_right (by omega)] at hi hj
        have := hr _ _ hi
        have := hr _ _ hj
        omega
    · by_cases h1 : k9 < W1.length
      · rw [List.getElem?_append_left h1] at hx
        exact hD1.2 k9 x hx
      · rw [List.getElem?_append_right (by omega)] at hx
        have := hr _ _ hx
        exact hA _ (by have := hS.1; omega)
  have hAr : ArrOfT s cA (.array ty) := fun N9 z9 => by
    obtain ⟨-, k9, hk9, cm9, hkk9⟩ := (hO 0 0 0).1
    exact ⟨(fun q hq => by cases hq), k9, hk9, cm9, hkk9⟩
  have hK2 : va_K D cl (tys ++ [(cA, .array ty)]) s := ⟨hK.1, fun k9 x hx => by
    by_cases hl : k9 < tys.length
    · rw [List.getElem?_append_left hl] at hx
      exact hK.2 k9 x hx
    · rw [List.getElem?_append_right (by omega)] at hx
      have h0 : k9 - tys.length < 1 := (List.getElem?_eq_some_iff.mp hx).1
      rw [show k9 - tys.length = 0 by omega] at hx
      cases hx
      exact ⟨hAr, fA⟩⟩
  obtain ⟨t, a1, b1⟩ := kk H.size (fun i => H.size + 1 + i) cA F.heap (fun i j _ _ h => by have h9 : H.size + 1 + i = H.size + 1 + j := h; omega) hnl hK2 (by rw [← vr_rows hnm]; exact vr_lay hP2) (by rw [← vr_rows hnm]; exact vr_layD hD2) ⟨by rw [f1]; have := hS.1; omega, fun x h1 h2 => (hold x (Nat.lt_of_lt_of_le h1 hS.1)).trans (hS.2.1 x h1 h2), hS.2.2⟩ F rfl X'
  refine ⟨t, step t ?_, b1⟩
  have e : T.heap.size = H.size := by rw [hT]
  rw [e]
  exact a1
end VGM
/-! ===== END ===== -/
def dh_sgG {α β : Type} (f : Nat → α → β) : Nat → List α → List β
  | _, [] => []
  | k, s :: t => f k s :: dh_sgG f (k + 1) t
/-- the cells of places of the given shapes at the addresses as, ints ri, longs 0 -/
def dh_sg (ta : Nat → ClassId) (shp : List (Nat × Nat × Nat × Nat)) (ri : Nat → Nat → Int32) (as : List Nat) : va_W := dh_sgG (fun k s => (as.getD k 0, dh_e (fun j => as.getD j 0) ta ri (fun _ _ => 0) k s)) 0 shp
def dh_z : Nat → Nat → Int32 := fun _ _ => 0
def dh_AO (U : State) : Prop := va_AO "DoubleHeap$Law" U ∧ va_AO "DoubleHeap$Tale" U ∧ va_AOA .int U
theorem dh_AO.moved {u U : State} (hvm : u.vm.Alike U.vm) (h : dh_AO u) : dh_AO U := ⟨h.1.moved hvm, h.2.1.moved hvm, h.2.2.moved hvm⟩
def dh_Pi (D : va_G) (ta : Nat → ClassId) (av : List Value) (ws : va_W) (sz : Nat) : Array Value → State → Prop := va_Pc av (fun U => U.heap.size = sz ∧ va_P D vwCl ws U.heap ∧ va_K D vwCl (dh_tys ta) U ∧ va_D (fun _ => True) ws ∧ dh_NW U ∧ dh_AO U)
theorem dh_Pi_blind {D : va_G} {ta : Nat → ClassId} {av : List Value} {ws : va_W} {sz : Nat} : FrameBlind (dh_Pi D ta av ws sz) := by
  intro a U g mk q
  obtain ⟨q0, q1, qP, qK, qD, qN, qO⟩ := q
  exact ⟨q0, q1, qP, va_K.moved (u := U) (U := U.calling g mk a) (Vm.Alike.refl U.vm) qK, qD, dh_NW.same (u := U) (U := U.calling g mk a) rfl qN, dh_AO.moved (u := U) (U := U.calling g mk a) (Vm.Alike.refl U.vm) qO⟩
theorem dh_lenf {u : List Nat} {n : Nat} (h : u.length = n) : ∃ f : Nat → Nat, u = (List.range n).map f := by
  refine ⟨fun i => u.getD i 0, ?_⟩
  subst h
  apply List.ext_getElem
  · simp
  · intro i h1 h2
    simp [h1]
section DHJ
variable {A : Nat → Prop} {D : va_G} {cl : List vw_C} {wr wc w1 : va_W} {H H1 H0 : Heap} {locs : List Loc} {s : State} {ta : Nat → ClassId} {cA : ClassId}
theorem dh_Pl (hP : va_P D cl (wr ++ wc) H) : va_P D cl wr H := fun k q hk => hP k q (by rw [List.getElem?_append_left (List.getElem?_eq_some_iff.mp hk).1]; exact hk)
theorem dh_Pr (hP : va_P D cl (wr ++ wc) H) : va_P D cl wc H := fun k q hk => hP (wr.length + k) q (by rw [List.getElem?_append_right (by omega)]; simpa using hk)
theorem dh_Dl (hD : va_D A (wr ++ wc)) : va_D A wr := ⟨fun i j p q hp hq e => hD.1 i j p q (by rw [List.getElem?_append_left (List.getElem?_eq_some_iff.mp hp).1]; exact hp) (by rw [List.getElem?_append_left (List.getElem?_eq_some_iff.mp hq).1]; exact hq) e, fun k q hk => hD.2 k q (by rw [List.getElem?_append_left (List.getElem?_eq_some_iff.mp hk).1]; exact hk)⟩
theorem dh_Dr (hD : va_D A (wr ++ wc)) : va_D A wc := ⟨fun i j p q hp hq e => by
  have := hD.1 (wr.length + i) (wr.length + j) p q (by rw [List.getElem?_append_right (by omega)]; simpa using hp) (by rw [List.getElem?_append_right (by omega)]; simpa using hq) e
  omega, fun k q hk => hD.2 (wr.length + k) q (by rw [List.getElem?_append_right (by omega)]; simpa using hk)⟩
theorem dh_Fr (hD : va_D A (wr ++ wc)) (hS : va_S A H0 H locs) (hA : ∀ q, H0.size ≤ q → A q) : ∀ q, va_A wc H.size q → A q := by
  intro q hq
  rcases hq with ⟨k, x, hk⟩ | hq
  · exact (dh_Dr hD).2 k _ hk
  · exact hA q (Nat.le_trans hS.1 hq)
theorem dh_joinA (hP : va_P D cl (wr ++ wc) H) (hD : va_D A (wr ++ wc)) (hk : ∀ q : Nat, q < H.size → ¬ va_A wc H.size q → H1[q]? = H[q]?) (hF : ∀ q, va_A wc H.size q → A q) (hP1 : va_P D cl w1 H1) (hD1 : va_D (va_A wc H.size) w1) : va_P D cl (wr ++ w1) H1 ∧ va_D A (wr ++ w1) := by
  have key : ∀ (i : Nat) (p : Nat × va_E), wr[i]? = some p → ¬ va_A wc H.size p.1 := by
    intro i p hp hq
    have hl := (dh_Pl hP i p hp).lt
    rcases hq with ⟨k, x, hx⟩ | hq
    · have hi := (List.getElem?_eq_some_iff.mp hp).1
      have := hD.1 i (wr.length + k) p (p.1, x) (by rw [List.getElem?_append_left hi]; exact hp) (by rw [List.getElem?_append_right (by omega)]; simpa using hx) rfl
      omega
    · omega
  refine ⟨((dh_Pl hP).kept (fun k q hq => hk q.1 ((dh_Pl hP k q hq).lt) (key k q hq))).app hP1, (dh_Dl hD).app (hD1.weaken (fun k q hq hz => hF _ hz)) (fun i j p q hp hq e => ?_)⟩
  exact key i p hp (by rw [e]; exact hD1.2 j q hq)
theorem dh_ta1 (hK : va_K D vwCl (dh_tys ta ++ [(cA, .int)]) s) : cA = ta 1 := Option.some.inj ((show s.vm.findClass _ = some cA from (hK.2 7 _ rfl).2).symm.trans (hK.2 0 _ rfl).2)
theorem dh_ta2 (hK : va_K D vwCl (dh_tys ta ++ [(cA, .long)]) s) : cA = ta 2 := Option.some.inj ((show s.vm.findClass _ = some cA from (hK.2 7 _ rfl).2).symm.trans (hK.2 1 _ rfl).2)
theorem dh_ta3 (hK : va_K D vwCl (dh_tys ta ++ [(cA, .byte)]) s) : cA = ta 3 := Option.some.inj ((show s.vm.findClass _ = some cA from (hK.2 7 _ rfl).2).symm.trans (hK.2 2 _ rfl).2)
theorem dh_ta4 (hK : va_K D vwCl (dh_tys ta ++ [(cA, .boolean)]) s) : cA = ta 4 := Option.some.inj ((show s.vm.findClass _ = some cA from (hK.2 7 _ rfl).2).symm.trans (hK.2 3 _ rfl).2)
theorem dh_ta7 (hK : va_K D vwCl (dh_tys ta ++ [(cA, .array .int)]) s) : cA = ta 7 := Option.some.inj ((show s.vm.findClass _ = some cA from (hK.2 7 _ rfl).2).symm.trans (hK.2 6 _ rfl).2)
theorem dh_ta5 (hK : va_K D vwCl (dh_tys ta ++ [(cA, .object "DoubleHeap$Law")]) s) : cA = ta 5 := by
  obtain ⟨k1, c1, -, -, -, h1⟩ := (hK.2 7 _ rfl).2
  obtain ⟨k2, c2, -, -, -, h2⟩ := (hK.2 4 _ rfl).2
  exact Option.some.inj (h1.symm.trans h2)
theorem dh_ta6 (hK : va_K D vwCl (dh_tys ta ++ [(cA, .object "DoubleHeap$Tale")]) s) : cA = ta 6 := by
  obtain ⟨k1, c1, -, -, -, h1⟩ := (hK.2 7 _ rfl).2
  obtain ⟨k2, c2, -, -, -, h2⟩ := (hK.2 5 _ rfl).2
  exact Option.some.inj (h1.symm.trans h2)
theorem dh_plup {l : List Nat} {f : Nat → va_E} {v : va_E} : va_pl ([] ++ l) (vr_up f l v) = l.map (fun a => (a, v)) := by
  unfold va_pl
  rw [List.nil_append]
  apply List.map_congr_left
  intro a ha
  rw [vr_up_in ha]
theorem dh_fe {n : Nat} {F G : Nat → Nat} (h : ∀ j, j < n → F j = G j) : (fun j => if j < n then some (F j) else none) = (fun j => if j < n then some (G j) else none) := by
  funext j
  by_cases q : j < n
  · rw [if_pos q, if_pos q, h j q]
  · rw [if_neg q, if_neg q]
end DHJ
theorem dh_w_oi : Cond.instanceMethod Lib.objectInit ∈ dh_B := dh_has_in (i := 173) (by decide +kernel)
theorem dh_w_oc : Cond.code Lib.objectInit ⟨#[0xb1]⟩ 1 none ∈ dh_B := dh_B_at 174 rfl rfl
theorem dh_w_aI : Cond.arrayClass .int ∈ dh_B := dh_has_in (i := 189) (by decide +kernel)
theorem dh_w_aJ : Cond.arrayClass .long ∈ dh_B := dh_has_in (i := 303) (by decide +kernel)
theorem dh_w_aB : Cond.arrayClass .byte ∈ dh_B := dh_has_in (i := 1286) (by decide +kernel)
theorem dh_w_aZ : Cond.arrayClass .boolean ∈ dh_B := dh_has_in (i := 1287) (by decide +kernel)
def sg_Tape : List (Nat × Nat × Nat × Nat) := [(0, 8, 0, 0), (1, 260, 0, 0)]
def yi_Tape : MethodName := ⟨"DoubleHeap$Tape", "<init>", "()V"⟩
set_option maxRecDepth 100000 in
theorem cwi_Tape : Cond.code yi_Tape prog_10_method_1_code 1 none ∈ dh_B := dh_B_at 179 rfl rfl
theorem gwi_Tape : GoodIn dh_B (Cond.code yi_Tape prog_10_method_1_code 1 none :: dh_B) := fun w hw => (List.mem_cons.mp hw).elim (fun e => e ▸ dh_goodIn _ cwi_Tape) (fun h => dh_goodIn _ h)
theorem di_Tape_0 : decode prog_10_method_1_code 0 = .ok (.aload_n 0, 1) := by decide +kernel
theorem di_Tape_1 : decode prog_10_method_1_code 1 = .ok (.invokespecial 3, 3) := by decide +kernel
theorem di_Tape_4 : decode prog_10_method_1_code 4 = .ok (.aload_n 0, 1) := by decide +kernel
theorem di_Tape_5 : decode prog_10_method_1_code 5 = .ok (.sipush 260, 3) := by decide +kernel
theorem di_Tape_8 : decode prog_10_method_1_code 8 = .ok (.newarray .int, 2) := by decide +kernel
theorem di_Tape_10 : decode prog_10_method_1_code 10 = .ok (.putfield 11, 3) := by decide +kernel
theorem di_Tape_13 : decode prog_10_method_1_code 13 = .ok (.aload_n 0, 1) := by decide +kernel
theorem di_Tape_14 : decode prog_10_method_1_code 14 = .ok (.iconst 0, 1) := by decide +kernel
theorem di_Tape_15 : decode prog_10_method_1_code 15 = .ok (.putfield 15, 3) := by decide +kernel
theorem di_Tape_18 : decode prog_10_method_1_code 18 = .ok (.return_, 1) := by decide +kernel
set_option maxHeartbeats 8000000 in
set_option maxRecDepth 100000 in
theorem k_Tape (l : Launch) (D : va_G) (ta : Nat → ClassId) (h0 sz : Nat) : Met l yi_Tape (Cond.code yi_Tape prog_10_method_1_code 1 none :: dh_B) ({ frames := 1, cells := 1, slots := 260, locals := 40 }) (dh_Pi D ta [.ref h0] [(h0, .inr (8, [.null, .int 0]))] sz) (va_Qv (fun u : List Nat => u.length = 1) (fun u t => va_P D vwCl (dh_sg ta sg_Tape dh_z (h0 :: u)) t.heap ∧ va_D (va_A [(h0, .inr (8, [.null, .int 0]))] sz) (dh_sg ta sg_Tape dh_z (h0 :: u))) (va_A [(h0, .inr (8, [.null, .int 0]))] sz)) 1 260 (va_A [(h0, .inr (8, [.null, .int 0]))] sz) := by
  refine Met.ofW (cc := prog_10_method_1_code) (maxL := 1) (ret := none) (by decide) rfl ?_
  intro p e s m args below meth c s₁ B hml hv
  obtain ⟨rfl, hsz, hP, hK, hD0, hN, hO⟩ := hv
  have hx := B.exec
  have hb := B.bytes
  have hr := B.returns
  have hts0 := atoms_spec (ws := Cond.code yi_Tape prog_10_method_1_code 1 none :: dh_B) B.pre
  have hts : ∀ w ∈ dh_B, w.before #[Value.ref h0] s = true := fun w hw => hts0 w (List.mem_cons_of_mem _ hw)
  have hown : s.vm.findClass RX8 = some m.cls := findClass_of_methodNamed B.named
  have hlocks := B.notSynchronized
  have hin : meth.name = "<init>" := (name_of_methodNamed B.named B.method).1
  subst hsz
  have hD := hD0.self (sz := s.heap.size)
  generalize hAe : va_A [(h0, .inr (8, [.null, .int 0]))] s.heap.size = A at hD ⊢
  have hA : ∀ q : Nat, s.heap.size ≤ q → A q := fun q h => by rw [← hAe]; exact Or.inr h
  have hS : va_S A s.heap s.heap [] := va_S.rf
  have hl := lv_entry ([.ref h0]) (n := 1) (Nat.le_of_ble_eq_true rfl)
  rw [lg_entry_eq]
  generalize (lg_sl ([.ref h0]) ++ List.replicate (1 - (lg_sl ([.ref h0])).length) Slot.unset).toArray = ls at hl ⊢
  have hl : lv_has ls 1 [(0, .ref h0)] := hl
  refine lv_aload_n hx hb di_Tape_0 rfl (lv_at hl 0 rfl) ?_
  refine W.objInit hx hb hown (hts (.methodLink RX8 3 Lib.objectInit) (dh_has_in (i := 180) (by decide +kernel))) (hts _ dh_w_oi) (hts _ dh_w_oc) rfl (by rw [hml]; exact hl.1) rfl di_Tape_1 (Nat.le_of_ble_eq_true rfl) (Nat.le_of_ble_eq_true rfl) ?_
  refine W.eq (g2 := F0 m 4 ls []) rfl ?_
  refine lv_aload_n hx hb di_Tape_4 rfl (lv_at hl 0 rfl) ?_
  refine lv_sipush (v := 260) hx hb di_Tape_5 (by decide) ?_
  refine va_newa (atype := .int) (a0 := (260, .inl (fun _ => 0))) hx hb (hts _ dh_w_aI) rfl hK hP hD hS hA (fun _ => rfl) (by decide) (by decide) (by decide) (Nat.le_of_ble_eq_true rfl) (Nat.le_of_ble_eq_true rfl) di_Tape_8 (fun q1 cA H hK1 hP hD hS => ?_)
  obtain rfl := dh_ta1 hK1
  clear hK1
  refine va_putF (D := D) (ci := 8) (v := .ref q1) (ty := .array .int) (C := RX8) (T := TX8) (N := 2) hx hb hts dh_u8 tyX8 tyX8_ok nmX8 hown hK hP hD hS 0 rfl rfl 0 (by decide) (hts (.fieldLink RX8 11 RX8 "bytes" "[I") (dh_has_in (i := 181) (by decide +kernel))) (fun _ h9 => h9) rfl hin rfl (by decide +kernel) rfl rfl (Nat.le_of_ble_eq_true rfl) di_Tape_10 (fun H locs hP hD hS => ?_)
  refine lv_aload_n hx hb di_Tape_13 rfl (lv_at hl 0 rfl) ?_
  refine lv_iconst (v := 0) hx hb di_Tape_14 (by decide) ?_
  refine va_put (D := D) (ci := 8) (v := .int 0) (ty := .int) (C := RX8) (T := TX8) (N := 2) hx hb hts dh_u8 tyX8 tyX8_ok nmX8 hown hK hP hD hS 0 rfl rfl 1 (by decide) (hts (.fieldLink RX8 15 RX8 "size" "I") (dh_has_in (i := 182) (by decide +kernel))) (fun _ h9 => h9) rfl (by decide +kernel) rfl rfl (Nat.le_of_ble_eq_true rfl) di_Tape_15 (fun H locs hP hD hS => ?_)
  have hP9 : va_P D vwCl (dh_sg ta sg_Tape dh_z (h0 :: [q1])) H := hP
  have hD9 : va_D A (dh_sg ta sg_Tape dh_z (h0 :: [q1])) := hD
  refine W.widen (k := 1) (n := 260) (Nat.le_of_ble_eq_true rfl) (Nat.le_of_ble_eq_true rfl) ?_
  exact W.vret hx hb hr (fun t ht hW => ⟨⟨[q1], rfl, rfl, by rw [ht]; exact hP9, hD9⟩, hS.F ht⟩) hS.2.2 di_Tape_18
def sg_Rules : List (Nat × Nat × Nat × Nat) := [(0, 5, 0, 0), (1, 160, 0, 0), (1, 160, 0, 0), (1, 8, 0, 0), (1, 8, 0, 0), (1, 8, 0, 0), (1, 24, 0, 0)]
def yi_Rules : MethodName := ⟨"DoubleHeap$Rules", "<init>", "()V"⟩
set_option maxRecDepth 100000 in
theorem cwi_Rules : Cond.code yi_Rules prog_7_method_1_code 1 none ∈ dh_B := dh_B_at 204 rfl rfl
theorem gwi_Rules : GoodIn dh_B (Cond.code yi_Rules prog_7_method_1_code 1 none :: dh_B) := fun w hw => (List.mem_cons.mp hw).elim (fun e => e ▸ dh_goodIn _ cwi_Rules) (fun h => dh_goodIn _ h)
theorem di_Rules_0 : decode prog_7_method_1_code 0 = .ok (.aload_n 0, 1) := by decide +kernel
theorem di_Rules_1 : decode prog_7_method_1_code 1 = .ok (.invokespecial 3, 3) := by decide +kernel
theorem di_Rules_4 : decode prog_7_method_1_code 4 = .ok (.aload_n 0, 1) := by decide +kernel
theorem di_Rules_5 : decode prog_7_method_1_code 5 = .ok (.sipush 160, 3) := by decide +kernel
theorem di_Rules_8 : decode prog_7_method_1_code 8 = .ok (.newarray .int, 2) := by decide +kernel
theorem di_Rules_10 : decode prog_7_method_1_code 10 = .ok (.putfield 11, 3) := by decide +kernel
theorem di_Rules_13 : decode prog_7_method_1_code 13 = .ok (.aload_n 0, 1) := by decide +kernel
theorem di_Rules_14 : decode prog_7_method_1_code 14 = .ok (.sipush 160, 3) := by decide +kernel
theorem di_Rules_17 : decode prog_7_method_1_code 17 = .ok (.newarray .int, 2) := by decide +kernel
theorem di_Rules_19 : decode prog_7_method_1_code 19 = .ok (.putfield 15, 3) := by decide +kernel
theorem di_Rules_22 : decode prog_7_method_1_code 22 = .ok (.aload_n 0, 1) := by decide +kernel
theorem di_Rules_23 : decode prog_7_method_1_code 23 = .ok (.iconst 0, 1) := by decide +kernel
theorem di_Rules_24 : decode prog_7_method_1_code 24 = .ok (.putfield 18, 3) := by decide +kernel
theorem di_Rules_27 : decode prog_7_method_1_code 27 = .ok (.aload_n 0, 1) := by decide +kernel
theorem di_Rules_28 : decode prog_7_method_1_code 28 = .ok (.bipush 8, 2) := by decide +kernel
theorem di_Rules_30 : decode prog_7_method_1_code 30 = .ok (.newarray .int, 2) := by decide +kernel
theorem di_Rules_32 : decode prog_7_method_1_code 32 = .ok (.putfield 22, 3) := by decide +kernel
theorem di_Rules_35 : decode prog_7_method_1_code 35 = .ok (.aload_n 0, 1) := by decide +kernel
theorem di_Rules_36 : decode prog_7_method_1_code 36 = .ok (.bipush 8, 2) := by decide +kernel
theorem di_Rules_38 : decode prog_7_method_1_code 38 = .ok (.newarray .int, 2) := by decide +kernel
theorem di_Rules_40 : decode prog_7_method_1_code 40 = .ok (.putfield 25, 3) := by decide +kernel
theorem di_Rules_43 : decode prog_7_method_1_code 43 = .ok (.aload_n 0, 1) := by decide +kernel
theorem di_Rules_44 : decode prog_7_method_1_code 44 = .ok (.bipush 8, 2) := by decide +kernel
theorem di_Rules_46 : decode prog_7_method_1_code 46 = .ok (.newarray .int, 2) := by decide +kernel
theorem di_Rules_48 : decode prog_7_method_1_code 48 = .ok (.putfield 28, 3) := by decide +kernel
theorem di_Rules_51 : decode prog_7_method_1_code 51 = .ok (.aload_n 0, 1) := by decide +kernel
theorem di_Rules_52 : decode prog_7_method_1_code 52 = .ok (.iconst 0, 1) := by decide +kernel
theorem di_Rules_53 : decode prog_7_method_1_code 53 = .ok (.putfield 31, 3) := by decide +kernel
theorem di_Rules_56 : decode prog_7_method_1_code 56 = .ok (.aload_n 0, 1) := by decide +kernel
theorem di_Rules_57 : decode prog_7_method_1_code 57 = .ok (.bipush 24, 2) := by decide +kernel
theorem di_Rules_59 : decode prog_7_method_1_code 59 = .ok (.newarray .int, 2) := by decide +kernel
theorem di_Rules_61 : decode prog_7_method_1_code 61 = .ok (.putfield 34, 3) := by decide +kernel
theorem di_Rules_64 : decode prog_7_method_1_code 64 = .ok (.aload_n 0, 1) := by decide +kernel
theorem di_Rules_65 : decode prog_7_method_1_code 65 = .ok (.iconst 0, 1) := by decide +kernel
theorem di_Rules_66 : decode prog_7_method_1_code 66 = .ok (.putfield 37, 3) := by decide +kernel
theorem di_Rules_69 : decode prog_7_method_1_code 69 = .ok (.aload_n 0, 1) := by decide +kernel
theorem di_Rules_70 : decode prog_7_method_1_code 70 = .ok (.iconst 0, 1) := by decide +kernel
theorem di_Rules_71 : decode prog_7_method_1_code 71 = .ok (.putfield 40, 3) := by decide +kernel
theorem di_Rules_74 : decode prog_7_method_1_code 74 = .ok (.return_, 1) := by decide +kernel
set_option maxHeartbeats 8000000 in
set_option maxRecDepth 100000 in
theorem k_Rules (l : Launch) (D : va_G) (ta : Nat → ClassId) (h0 sz : Nat) : Met l yi_Rules (Cond.code yi_Rules prog_7_method_1_code 1 none :: dh_B) ({ frames := 1, cells := 6, slots := 368, locals := 40 }) (dh_Pi D ta [.ref h0] [(h0, .inr (5, [.null, .null, .int 0, .null, .null, .null, .int 0, .null, .int 0, .int 0]))] sz) (va_Qv (fun u : List Nat => u.length = 6) (fun u t => va_P D vwCl (dh_sg ta sg_Rules dh_z (h0 :: u)) t.heap ∧ va_D (va_A [(h0, .inr (5, [.null, .null, .int 0, .null, .null, .null, .int 0, .null, .int 0, .int 0]))] sz) (dh_sg ta sg_Rules dh_z (h0 :: u))) (va_A [(h0, .inr (5, [.null, .null, .int 0, .null, .null, .null, .int 0, .null, .int 0, .int 0]))] sz)) 6 368 (va_A [(h0, .inr (5, [.null, .null, .int 0, .null, .null, .null, .int 0, .null, .int 0, .int 0]))] sz) := by
  refine Met.ofW (cc := prog_7_method_1_code) (maxL := 1) (ret := none) (by decide) rfl ?_
  intro p e s m args below meth c s₁ B hml hv
  obtain ⟨rfl, hsz, hP, hK, hD0, hN, hO⟩ := hv
  have hx := B.exec
  have hb := B.bytes
  have hr := B.returns
  have hts0 := atoms_spec (ws := Cond.code yi_Rules prog_7_method_1_code 1 none :: dh_B) B.pre
  have hts : ∀ w ∈ dh_B, w.before #[Value.ref h0] s = true := fun w hw => hts0 w (List.mem_cons_of_mem _ hw)
  have hown : s.vm.findClass RX5 = some m.cls := findClass_of_methodNamed B.named
  have hlocks := B.notSynchronized
  have hin : meth.name = "<init>" := (name_of_methodNamed B.named B.method).1
  subst hsz
  have hD := hD0.self (sz := s.heap.size)
  generalize hAe : va_A [(h0, .inr (5, [.null, .null, .int 0, .null, .null, .null, .int 0, .null, .int 0, .int 0]))] s.heap.size = A at hD ⊢
  have hA : ∀ q : Nat, s.heap.size ≤ q → A q := fun q h => by rw [← hAe]; exact Or.inr h
  have hS : va_S A s.heap s.heap [] := va_S.rf
  have hl := lv_entry ([.ref h0]) (n := 1) (Nat.le_of_ble_eq_true rfl)
  rw [lg_entry_eq]
  generalize (lg_sl ([.ref h0]) ++ List.replicate (1 - (lg_sl ([.ref h0])).length) Slot.unset).toArray = ls at hl ⊢
  have hl : lv_has ls 1 [(0, .ref h0)] := hl
  refine lv_aload_n hx hb di_Rules_0 rfl (lv_at hl 0 rfl) ?_
  refine W.objInit hx hb hown (hts (.methodLink RX5 3 Lib.objectInit) (dh_has_in (i := 205) (by decide +kernel))) (hts _ dh_w_oi) (hts _ dh_w_oc) rfl (by rw [hml]; exact hl.1) rfl di_Rules_1 (Nat.le_of_ble_eq_true rfl) (Nat.le_of_ble_eq_true rfl) ?_
  refine W.eq (g2 := F0 m 4 ls []) rfl ?_
  refine lv_aload_n hx hb di_Rules_4 rfl (lv_at hl 0 rfl) ?_
  refine lv_sipush (v := 160) hx hb di_Rules_5 (by decide) ?_
  refine va_newa (atype := .int) (a0 := (160, .inl (fun _ => 0))) hx hb (hts _ dh_w_aI) rfl hK hP hD hS hA (fun _ => rfl) (by decide) (by decide) (by decide) (Nat.le_of_ble_eq_true rfl) (Nat.le_of_ble_eq_true rfl) di_Rules_8 (fun q1 cA H hK1 hP hD hS => ?_)
  obtain rfl := dh_ta1 hK1
  clear hK1
  refine va_putF (D := D) (ci := 5) (v := .ref q1) (ty := .array .int) (C := RX5) (T := TX5) (N := 10) hx hb hts dh_u5 tyX5 tyX5_ok nmX5 hown hK hP hD hS 0 rfl rfl 0 (by decide) (hts (.fieldLink RX5 11 RX5 "signs" "[I") (dh_has_in (i := 206) (by decide +kernel))) (fun _ h9 => h9) rfl hin rfl (by decide +kernel) rfl rfl (Nat.le_of_ble_eq_true rfl) di_Rules_10 (fun H locs hP hD hS => ?_)
  refine lv_aload_n hx hb di_Rules_13 rfl (lv_at hl 0 rfl) ?_
  refine lv_sipush (v := 160) hx hb di_Rules_14 (by decide) ?_
  refine va_newa (atype := .int) (a0 := (160, .inl (fun _ => 0))) hx hb (hts _ dh_w_aI) rfl hK hP hD hS hA (fun _ => rfl) (by decide) (by decide) (by decide) (Nat.le_of_ble_eq_true rfl) (Nat.le_of_ble_eq_true rfl) di_Rules_17 (fun q2 cA H hK1 hP hD hS => ?_)
  obtain rfl := dh_ta1 hK1
  clear hK1
  refine va_putF (D := D) (ci := 5) (v := .ref q2) (ty := .array .int) (C := RX5) (T := TX5) (N := 10) hx hb hts dh_u5 tyX5 tyX5_ok nmX5 hown hK hP hD hS 0 rfl rfl 1 (by decide) (hts (.fieldLink RX5 15 RX5 "values" "[I") (dh_has_in (i := 207) (by decide +kernel))) (fun _ h9 => h9) rfl hin rfl (by decide +kernel) rfl rfl (Nat.le_of_ble_eq_true rfl) di_Rules_19 (fun H locs hP hD hS => ?_)
  refine lv_aload_n hx hb di_Rules_22 rfl (lv_at hl 0 rfl) ?_
  refine lv_iconst (v := 0) hx hb di_Rules_23 (by decide) ?_
  refine va_put (D := D) (ci := 5) (v := .int 0) (ty := .int) (C := RX5) (T := TX5) (N := 10) hx hb hts dh_u5 tyX5 tyX5_ok nmX5 hown hK hP hD hS 0 rfl rfl 2 (by decide) (hts (.fieldLink RX5 18 RX5 "size" "I") (dh_has_in (i := 208) (by decide +kernel))) (fun _ h9 => h9) rfl (by decide +kernel) rfl rfl (Nat.le_of_ble_eq_true rfl) di_Rules_24 (fun H locs hP hD hS => ?_)
  refine lv_aload_n hx hb di_Rules_27 rfl (lv_at hl 0 rfl) ?_
  refine lv_bipush (v := 8) hx hb di_Rules_28 (by decide) ?_
  refine va_newa (atype := .int) (a0 := (8, .inl (fun _ => 0))) hx hb (hts _ dh_w_aI) rfl hK hP hD hS hA (fun _ => rfl) (by decide) (by decide) (by decide) (Nat.le_of_ble_eq_true rfl) (Nat.le_of_ble_eq_true rfl) di_Rules_30 (fun q3 cA H hK1 hP hD hS => ?_)
  obtain rfl := dh_ta1 hK1
  clear hK1
  refine va_putF (D := D) (ci := 5) (v := .ref q3) (ty := .array .int) (C := RX5) (T := TX5) (N := 10) hx hb hts dh_u5 tyX5 tyX5_ok nmX5 hown hK hP hD hS 0 rfl rfl 3 (by decide) (hts (.fieldLink RX5 22 RX5 "letters" "[I") (dh_has_in (i := 210) (by decide +kernel))) (fun _ h9 => h9) rfl hin rfl (by decide +kernel) rfl rfl (Nat.le_of_ble_eq_true rfl) di_Rules_32 (fun H locs hP hD hS => ?_)
  refine lv_aload_n hx hb di_Rules_35 rfl (lv_at hl 0 rfl) ?_
  refine lv_bipush (v := 8) hx hb di_Rules_36 (by decide) ?_
  refine va_newa (atype := .int) (a0 := (8, .inl (fun _ => 0))) hx hb (hts _ dh_w_aI) rfl hK hP hD hS hA (fun _ => rfl) (by decide) (by decide) (by decide) (Nat.le_of_ble_eq_true rfl) (Nat.le_of_ble_eq_true rfl) di_Rules_38 (fun q4 cA H hK1 hP hD hS => ?_)
  obtain rfl := dh_ta1 hK1
  clear hK1
  refine va_putF (D := D) (ci := 5) (v := .ref q4) (ty := .array .int) (C := RX5) (T := TX5) (N := 10) hx hb hts dh_u5 tyX5 tyX5_ok nmX5 hown hK hP hD hS 0 rfl rfl 4 (by decide) (hts (.fieldLink RX5 25 RX5 "amounts" "[I") (dh_has_in (i := 211) (by decide +kernel))) (fun _ h9 => h9) rfl hin rfl (by decide +kernel) rfl rfl (Nat.le_of_ble_eq_true rfl) di_Rules_40 (fun H locs hP hD hS => ?_)
  refine lv_aload_n hx hb di_Rules_43 rfl (lv_at hl 0 rfl) ?_
  refine lv_bipush (v := 8) hx hb di_Rules_44 (by decide) ?_
  refine va_newa (atype := .int) (a0 := (8, .inl (fun _ => 0))) hx hb (hts _ dh_w_aI) rfl hK hP hD hS hA (fun _ => rfl) (by decide) (by decide) (by decide) (Nat.le_of_ble_eq_true rfl) (Nat.le_of_ble_eq_true rfl) di_Rules_46 (fun q5 cA H hK1 hP hD hS => ?_)
  obtain rfl := dh_ta1 hK1
  clear hK1
  refine va_putF (D := D) (ci := 5) (v := .ref q5) (ty := .array .int) (C := RX5) (T := TX5) (N := 10) hx hb hts dh_u5 tyX5 tyX5_ok nmX5 hown hK hP hD hS 0 rfl rfl 5 (by decide) (hts (.fieldLink RX5 28 RX5 "conditions" "[I") (dh_has_in (i := 212) (by decide +kernel))) (fun _ h9 => h9) rfl hin rfl (by decide +kernel) rfl rfl (Nat.le_of_ble_eq_true rfl) di_Rules_48 (fun H locs hP hD hS => ?_)
  refine lv_aload_n hx hb di_Rules_51 rfl (lv_at hl 0 rfl) ?_
  refine lv_iconst (v := 0) hx hb di_Rules_52 (by decide) ?_
  refine va_put (D := D) (ci := 5) (v := .int 0) (ty := .int) (C := RX5) (T := TX5) (N := 10) hx hb hts dh_u5 tyX5 tyX5_ok nmX5 hown hK hP hD hS 0 rfl rfl 6 (by decide) (hts (.fieldLink RX5 31 RX5 "count" "I") (dh_has_in (i := 213) (by decide +kernel))) (fun _ h9 => h9) rfl (by decide +kernel) rfl rfl (Nat.le_of_ble_eq_true rfl) di_Rules_53 (fun H locs hP hD hS => ?_)
  refine lv_aload_n hx hb di_Rules_56 rfl (lv_at hl 0 rfl) ?_
  refine lv_bipush (v := 24) hx hb di_Rules_57 (by decide) ?_
  refine va_newa (atype := .int) (a0 := (24, .inl (fun _ => 0))) hx hb (hts _ dh_w_aI) rfl hK hP hD hS hA (fun _ => rfl) (by decide) (by decide) (by decide) (Nat.le_of_ble_eq_true rfl) (Nat.le_of_ble_eq_true rfl) di_Rules_59 (fun q6 cA H hK1 hP hD hS => ?_)
  obtain rfl := dh_ta1 hK1
  clear hK1
  refine va_putF (D := D) (ci := 5) (v := .ref q6) (ty := .array .int) (C := RX5) (T := TX5) (N := 10) hx hb hts dh_u5 tyX5 tyX5_ok nmX5 hown hK hP hD hS 0 rfl rfl 7 (by decide) (hts (.fieldLink RX5 34 RX5 "stack" "[I") (dh_has_in (i := 216) (by decide +kernel))) (fun _ h9 => h9) rfl hin rfl (by decide +kernel) rfl rfl (Nat.le_of_ble_eq_true rfl) di_Rules_61 (fun H locs hP hD hS => ?_)
  refine lv_aload_n hx hb di_Rules_64 rfl (lv_at hl 0 rfl) ?_
  refine lv_iconst (v := 0) hx hb di_Rules_65 (by decide) ?_
  refine va_put (D := D) (ci := 5) (v := .int 0) (ty := .int) (C := RX5) (T := TX5) (N := 10) hx hb hts dh_u5 tyX5 tyX5_ok nmX5 hown hK hP hD hS 0 rfl rfl 8 (by decide) (hts (.fieldLink RX5 37 RX5 "top" "I") (dh_has_in (i := 217) (by decide +kernel))) (fun _ h9 => h9) rfl (by decide +kernel) rfl rfl (Nat.le_of_ble_eq_true rfl) di_Rules_66 (fun H locs hP hD hS => ?_)
  refine lv_aload_n hx hb di_Rules_69 rfl (lv_at hl 0 rfl) ?_
  refine lv_iconst (v := 0) hx hb di_Rules_70 (by decide) ?_
  refine va_put (D := D) (ci := 5) (v := .int 0) (ty := .boolean) (C := RX5) (T := TX5) (N := 10) hx hb hts dh_u5 tyX5 tyX5_ok nmX5 hown hK hP hD hS 0 rfl rfl 9 (by decide) (hts (.fieldLink RX5 40 RX5 "refused" "Z") (dh_has_in (i := 218) (by decide +kernel))) (fun _ h9 => h9) rfl (by decide +kernel) rfl rfl (Nat.le_of_ble_eq_true rfl) di_Rules_71 (fun H locs hP hD hS => ?_)
  have hP9 : va_P D vwCl (dh_sg ta sg_Rules dh_z (h0 :: [q1, q2, q3, q4, q5, q6])) H := hP
  have hD9 : va_D A (dh_sg ta sg_Rules dh_z (h0 :: [q1, q2, q3, q4, q5, q6])) := hD
  refine W.widen (k := 6) (n := 368) (Nat.le_of_ble_eq_true rfl) (Nat.le_of_ble_eq_true rfl) ?_
  exact W.vret hx hb hr (fun t ht hW => ⟨⟨[q1, q2, q3, q4, q5, q6], rfl, rfl, by rw [ht]; exact hP9, hD9⟩, hS.F ht⟩) hS.2.2 di_Rules_74
def sg_Stove : List (Nat × Nat × Nat × Nat) := [(0, 6, 0, 0), (1, 40, 0, 0)]
def yi_Stove : MethodName := ⟨"DoubleHeap$Stove", "<init>", "()V"⟩
set_option maxRecDepth 100000 in
theorem cwi_Stove : Cond.code yi_Stove prog_8_method_1_code 1 none ∈ dh_B := dh_B_at 370 rfl rfl
theorem gwi_Stove : GoodIn dh_B (Cond.code yi_Stove prog_8_method_1_code 1 none :: dh_B) := fun w hw => (List.mem_cons.mp hw).elim (fun e => e ▸ dh_goodIn _ cwi_Stove) (fun h => dh_goodIn _ h)
theorem di_Stove_0 : decode prog_8_method_1_code 0 = .ok (.aload_n 0, 1) := by decide +kernel
theorem di_Stove_1 : decode prog_8_method_1_code 1 = .ok (.invokespecial 3, 3) := by decide +kernel
theorem di_Stove_4 : decode prog_8_method_1_code 4 = .ok (.aload_n 0, 1) := by decide +kernel
theorem di_Stove_5 : decode prog_8_method_1_code 5 = .ok (.iconst 0, 1) := by decide +kernel
theorem di_Stove_6 : decode prog_8_method_1_code 6 = .ok (.putfield 9, 3) := by decide +kernel
theorem di_Stove_9 : decode prog_8_method_1_code 9 = .ok (.aload_n 0, 1) := by decide +kernel
theorem di_Stove_10 : decode prog_8_method_1_code 10 = .ok (.iconst 0, 1) := by decide +kernel
theorem di_Stove_11 : decode prog_8_method_1_code 11 = .ok (.putfield 15, 3) := by decide +kernel
theorem di_Stove_14 : decode prog_8_method_1_code 14 = .ok (.aload_n 0, 1) := by decide +kernel
theorem di_Stove_15 : decode prog_8_method_1_code 15 = .ok (.iconst 0, 1) := by decide +kernel
theorem di_Stove_16 : decode prog_8_method_1_code 16 = .ok (.putfield 18, 3) := by decide +kernel
theorem di_Stove_19 : decode prog_8_method_1_code 19 = .ok (.aload_n 0, 1) := by decide +kernel
theorem di_Stove_20 : decode prog_8_method_1_code 20 = .ok (.iconst 0, 1) := by decide +kernel
theorem di_Stove_21 : decode prog_8_method_1_code 21 = .ok (.putfield 21, 3) := by decide +kernel
theorem di_Stove_24 : decode prog_8_method_1_code 24 = .ok (.aload_n 0, 1) := by decide +kernel
theorem di_Stove_25 : decode prog_8_method_1_code 25 = .ok (.bipush 40, 2) := by decide +kernel
theorem di_Stove_27 : decode prog_8_method_1_code 27 = .ok (.newarray .int, 2) := by decide +kernel
theorem di_Stove_29 : decode prog_8_method_1_code 29 = .ok (.putfield 24, 3) := by decide +kernel
theorem di_Stove_32 : decode prog_8_method_1_code 32 = .ok (.return_, 1) := by decide +kernel
set_option maxHeartbeats 8000000 in
set_option maxRecDepth 100000 in
theorem k_Stove (l : Launch) (D : va_G) (ta : Nat → ClassId) (h0 sz : Nat) : Met l yi_Stove (Cond.code yi_Stove prog_8_method_1_code 1 none :: dh_B) ({ frames := 1, cells := 1, slots := 40, locals := 40 }) (dh_Pi D ta [.ref h0] [(h0, .inr (6, [.int 0, .int 0, .int 0, .int 0, .null]))] sz) (va_Qv (fun u : List Nat => u.length = 1) (fun u t => va_P D vwCl (dh_sg ta sg_Stove dh_z (h0 :: u)) t.heap ∧ va_D (va_A [(h0, .inr (6, [.int 0, .int 0, .int 0, .int 0, .null]))] sz) (dh_sg ta sg_Stove dh_z (h0 :: u))) (va_A [(h0, .inr (6, [.int 0, .int 0, .int 0, .int 0, .null]))] sz)) 1 40 (va_A [(h0, .inr (6, [.int 0, .int 0, .int 0, .int 0, .null]))] sz) := by
  refine Met.ofW (cc := prog_8_method_1_code) (maxL := 1) (ret := none) (by decide) rfl ?_
  intro p e s m args below meth c s₁ B hml hv
  obtain ⟨rfl, hsz, hP, hK, hD0, hN, hO⟩ := hv
  have hx := B.exec
  have hb := B.bytes
  have hr := B.returns
  have hts0 := atoms_spec (ws := Cond.code yi_Stove prog_8_method_1_code 1 none :: dh_B) B.pre
  have hts : ∀ w ∈ dh_B, w.before #[Value.ref h0] s = true := fun w hw => hts0 w (List.mem_cons_of_mem _ hw)
  have hown : s.vm.findClass RX6 = some m.cls := findClass_of_methodNamed B.named
  have hlocks := B.notSynchronized
  have hin : meth.name = "<init>" := (name_of_methodNamed B.named B.method).1
  subst hsz
  have hD := hD0.self (sz := s.heap.size)
  generalize hAe : va_A [(h0, .inr (6, [.int 0, .int 0, .int 0, .int 0, .null]))] s.heap.size = A at hD ⊢
  have hA : ∀ q : Nat, s.heap.size ≤ q → A q := fun q h => by rw [← hAe]; exact Or.inr h
  have hS : va_S A s.heap s.heap [] := va_S.rf
  have hl := lv_entry ([.ref h0]) (n := 1) (Nat.le_of_ble_eq_true rfl)
  rw [lg_entry_eq]
  generalize (lg_sl ([.ref h0]) ++ List.replicate (1 - (lg_sl ([.ref h0])).length) Slot.unset).toArray = ls at hl ⊢
  have hl : lv_has ls 1 [(0, .ref h0)] := hl
  refine lv_aload_n hx hb di_Stove_0 rfl (lv_at hl 0 rfl) ?_
  refine W.objInit hx hb hown (hts (.methodLink RX6 3 Lib.objectInit) (dh_has_in (i := 371) (by decide +kernel))) (hts _ dh_w_oi) (hts _ dh_w_oc) rfl (by rw [hml]; exact hl.1) rfl di_Stove_1 (Nat.le_of_ble_eq_true rfl) (Nat.le_of_ble_eq_true rfl) ?_
  refine W.eq (g2 := F0 m 4 ls []) rfl ?_
  refine lv_aload_n hx hb di_Stove_4 rfl (lv_at hl 0 rfl) ?_
  refine lv_iconst (v := 0) hx hb di_Stove_5 (by decide) ?_
  refine va_put (D := D) (ci := 6) (v := .int 0) (ty := .int) (C := RX6) (T := TX6) (N := 5) hx hb hts dh_u6 tyX6 tyX6_ok nmX6 hown hK hP hD hS 0 rfl rfl 0 (by decide) (hts (.fieldLink RX6 9 RX6 "law" "I") (dh_has_in (i := 372) (by decide +kernel))) (fun _ h9 => h9) rfl (by decide +kernel) rfl rfl (Nat.le_of_ble_eq_true rfl) di_Stove_6 (fun H locs hP hD hS => ?_)
  refine lv_aload_n hx hb di_Stove_9 rfl (lv_at hl 0 rfl) ?_
  refine lv_iconst (v := 0) hx hb di_Stove_10 (by decide) ?_
  refine va_put (D := D) (ci := 6) (v := .int 0) (ty := .int) (C := RX6) (T := TX6) (N := 5) hx hb hts dh_u6 tyX6 tyX6_ok nmX6 hown hK hP hD hS 0 rfl rfl 1 (by decide) (hts (.fieldLink RX6 15 RX6 "heap" "I") (dh_has_in (i := 374) (by decide +kernel))) (fun _ h9 => h9) rfl (by decide +kernel) rfl rfl (Nat.le_of_ble_eq_true rfl) di_Stove_11 (fun H locs hP hD hS => ?_)
  refine lv_aload_n hx hb di_Stove_14 rfl (lv_at hl 0 rfl) ?_
  refine lv_iconst (v := 0) hx hb di_Stove_15 (by decide) ?_
  refine va_put (D := D) (ci := 6) (v := .int 0) (ty := .int) (C := RX6) (T := TX6) (N := 5) hx hb hts dh_u6 tyX6 tyX6_ok nmX6 hown hK hP hD hS 0 rfl rfl 2 (by decide) (hts (.fieldLink RX6 18 RX6 "last" "I") (dh_has_in (i := 376) (by decide +kernel))) (fun _ h9 => h9) rfl (by decide +kernel) rfl rfl (Nat.le_of_ble_eq_true rfl) di_Stove_16 (fun H locs hP hD hS => ?_)
  refine lv_aload_n hx hb di_Stove_19 rfl (lv_at hl 0 rfl) ?_
  refine lv_iconst (v := 0) hx hb di_Stove_20 (by decide) ?_
  refine va_put (D := D) (ci := 6) (v := .int 0) (ty := .int) (C := RX6) (T := TX6) (N := 5) hx hb hts dh_u6 tyX6 tyX6_ok nmX6 hown hK hP hD hS 0 rfl rfl 3 (by decide) (hts (.fieldLink RX6 21 RX6 "size" "I") (dh_has_in (i := 378) (by decide +kernel))) (fun _ h9 => h9) rfl (by decide +kernel) rfl rfl (Nat.le_of_ble_eq_true rfl) di_Stove_21 (fun H locs hP hD hS => ?_)
  refine lv_aload_n hx hb di_Stove_24 rfl (lv_at hl 0 rfl) ?_
  refine lv_bipush (v := 40) hx hb di_Stove_25 (by decide) ?_
  refine va_newa (atype := .int) (a0 := (40, .inl (fun _ => 0))) hx hb (hts _ dh_w_aI) rfl hK hP hD hS hA (fun _ => rfl) (by decide) (by decide) (by decide) (Nat.le_of_ble_eq_true rfl) (Nat.le_of_ble_eq_true rfl) di_Stove_27 (fun q1 cA H hK1 hP hD hS => ?_)
  obtain rfl := dh_ta1 hK1
  clear hK1
  refine va_putF (D := D) (ci := 6) (v := .ref q1) (ty := .array .int) (C := RX6) (T := TX6) (N := 5) hx hb hts dh_u6 tyX6 tyX6_ok nmX6 hown hK hP hD hS 0 rfl rfl 4 (by decide) (hts (.fieldLink RX6 24 RX6 "takes" "[I") (dh_has_in (i := 380) (by decide +kernel))) (fun _ h9 => h9) rfl hin rfl (by decide +kernel) rfl rfl (Nat.le_of_ble_eq_true rfl) di_Stove_29 (fun H locs hP hD hS => ?_)
  have hP9 : va_P D vwCl (dh_sg ta sg_Stove dh_z (h0 :: [q1])) H := hP
  have hD9 : va_D A (dh_sg ta sg_Stove dh_z (h0 :: [q1])) := hD
  refine W.widen (k := 1) (n := 40) (Nat.le_of_ble_eq_true rfl) (Nat.le_of_ble_eq_true rfl) ?_
  exact W.vret hx hb hr (fun t ht hW => ⟨⟨[q1], rfl, rfl, by rw [ht]; exact hP9, hD9⟩, hS.F ht⟩) hS.2.2 di_Stove_32
def sg_Tale : List (Nat × Nat × Nat × Nat) := [(0, 7, 0, 0), (1, 40, 0, 0), (1, 40, 0, 0)]
def yi_Tale : MethodName := ⟨"DoubleHeap$Tale", "<init>", "()V"⟩
set_option maxRecDepth 100000 in
theorem cwi_Tale : Cond.code yi_Tale prog_9_method_1_code 1 none ∈ dh_B := dh_B_at 260 rfl rfl
theorem gwi_Tale : GoodIn dh_B (Cond.code yi_Tale prog_9_method_1_code 1 none :: dh_B) := fun w hw => (List.mem_cons.mp hw).elim (fun e => e ▸ dh_goodIn _ cwi_Tale) (fun h => dh_goodIn _ h)
theorem di_Tale_0 : decode prog_9_method_1_code 0 = .ok (.aload_n 0, 1) := by decide +kernel
theorem di_Tale_1 : decode prog_9_method_1_code 1 = .ok (.invokespecial 3, 3) := by decide +kernel
theorem di_Tale_4 : decode prog_9_method_1_code 4 = .ok (.aload_n 0, 1) := by decide +kernel
theorem di_Tale_5 : decode prog_9_method_1_code 5 = .ok (.iconst 0, 1) := by decide +kernel
theorem di_Tale_6 : decode prog_9_method_1_code 6 = .ok (.putfield 9, 3) := by decide +kernel
theorem di_Tale_9 : decode prog_9_method_1_code 9 = .ok (.aload_n 0, 1) := by decide +kernel
theorem di_Tale_10 : decode prog_9_method_1_code 10 = .ok (.iconst 0, 1) := by decide +kernel
theorem di_Tale_11 : decode prog_9_method_1_code 11 = .ok (.putfield 15, 3) := by decide +kernel
theorem di_Tale_14 : decode prog_9_method_1_code 14 = .ok (.aload_n 0, 1) := by decide +kernel
theorem di_Tale_15 : decode prog_9_method_1_code 15 = .ok (.iconst 0, 1) := by decide +kernel
theorem di_Tale_16 : decode prog_9_method_1_code 16 = .ok (.putfield 19, 3) := by decide +kernel
theorem di_Tale_19 : decode prog_9_method_1_code 19 = .ok (.aload_n 0, 1) := by decide +kernel
theorem di_Tale_20 : decode prog_9_method_1_code 20 = .ok (.bipush 40, 2) := by decide +kernel
theorem di_Tale_22 : decode prog_9_method_1_code 22 = .ok (.newarray .int, 2) := by decide +kernel
theorem di_Tale_24 : decode prog_9_method_1_code 24 = .ok (.putfield 22, 3) := by decide +kernel
theorem di_Tale_27 : decode prog_9_method_1_code 27 = .ok (.aload_n 0, 1) := by decide +kernel
theorem di_Tale_28 : decode prog_9_method_1_code 28 = .ok (.bipush 40, 2) := by decide +kernel
theorem di_Tale_30 : decode prog_9_method_1_code 30 = .ok (.newarray .int, 2) := by decide +kernel
theorem di_Tale_32 : decode prog_9_method_1_code 32 = .ok (.putfield 26, 3) := by decide +kernel
theorem di_Tale_35 : decode prog_9_method_1_code 35 = .ok (.return_, 1) := by decide +kernel
set_option maxHeartbeats 8000000 in
set_option maxRecDepth 100000 in
theorem k_Tale (l : Launch) (D : va_G) (ta : Nat → ClassId) (h0 sz : Nat) : Met l yi_Tale (Cond.code yi_Tale prog_9_method_1_code 1 none :: dh_B) ({ frames := 1, cells := 2, slots := 80, locals := 40 }) (dh_Pi D ta [.ref h0] [(h0, .inr (7, [.int 0, .int 0, .int 0, .null, .null]))] sz) (va_Qv (fun u : List Nat => u.length = 2) (fun u t => va_P D vwCl (dh_sg ta sg_Tale dh_z (h0 :: u)) t.heap ∧ va_D (va_A [(h0, .inr (7, [.int 0, .int 0, .int 0, .null, .null]))] sz) (dh_sg ta sg_Tale dh_z (h0 :: u))) (va_A [(h0, .inr (7, [.int 0, .int 0, .int 0, .null, .null]))] sz)) 2 80 (va_A [(h0, .inr (7, [.int 0, .int 0, .int 0, .null, .null]))] sz) := by
  refine Met.ofW (cc := prog_9_method_1_code) (maxL := 1) (ret := none) (by decide) rfl ?_
  intro p e s m args below meth c s₁ B hml hv
  obtain ⟨rfl, hsz, hP, hK, hD0, hN, hO⟩ := hv
  have hx := B.exec
  have hb := B.bytes
  have hr := B.returns
  have hts0 := atoms_spec (ws := Cond.code yi_Tale prog_9_method_1_code 1 none :: dh_B) B.pre
  have hts : ∀ w ∈ dh_B, w.before #[Value.ref h0] s = true := fun w hw => hts0 w (List.mem_cons_of_mem _ hw)
  have hown : s.vm.findClass RX7 = some m.cls := findClass_of_methodNamed B.named
  have hlocks := B.notSynchronized
  have hin : meth.name = "<init>" := (name_of_methodNamed B.named B.method).1
  subst hsz
  have hD := hD0.self (sz := s.heap.size)
  generalize hAe : va_A [(h0, .inr (7, [.int 0, .int 0, .int 0, .null, .null]))] s.heap.size = A at hD ⊢
  have hA : ∀ q : Nat, s.heap.size ≤ q → A q := fun q h => by rw [← hAe]; exact Or.inr h
  have hS : va_S A s.heap s.heap [] := va_S.rf
  have hl := lv_entry ([.ref h0]) (n := 1) (Nat.le_of_ble_eq_true rfl)
  rw [lg_entry_eq]
  generalize (lg_sl ([.ref h0]) ++ List.replicate (1 - (lg_sl ([.ref h0])).length) Slot.unset).toArray = ls at hl ⊢
  have hl : lv_has ls 1 [(0, .ref h0)] := hl
  refine lv_aload_n hx hb di_Tale_0 rfl (lv_at hl 0 rfl) ?_
  refine W.objInit hx hb hown (hts (.methodLink RX7 3 Lib.objectInit) (dh_has_in (i := 261) (by decide +kernel))) (hts _ dh_w_oi) (hts _ dh_w_oc) rfl (by rw [hml]; exact hl.1) rfl di_Tale_1 (Nat.le_of_ble_eq_true rfl) (Nat.le_of_ble_eq_true rfl) ?_
  refine W.eq (g2 := F0 m 4 ls []) rfl ?_
  refine lv_aload_n hx hb di_Tale_4 rfl (lv_at hl 0 rfl) ?_
  refine lv_iconst (v := 0) hx hb di_Tale_5 (by decide) ?_
  refine va_put (D := D) (ci := 7) (v := .int 0) (ty := .boolean) (C := RX7) (T := TX7) (N := 5) hx hb hts dh_u7 tyX7 tyX7_ok nmX7 hown hK hP hD hS 0 rfl rfl 0 (by decide) (hts (.fieldLink RX7 9 RX7 "told" "Z") (dh_has_in (i := 262) (by decide +kernel))) (fun _ h9 => h9) rfl (by decide +kernel) rfl rfl (Nat.le_of_ble_eq_true rfl) di_Tale_6 (fun H locs hP hD hS => ?_)
  refine lv_aload_n hx hb di_Tale_9 rfl (lv_at hl 0 rfl) ?_
  refine lv_iconst (v := 0) hx hb di_Tale_10 (by decide) ?_
  refine va_put (D := D) (ci := 7) (v := .int 0) (ty := .int) (C := RX7) (T := TX7) (N := 5) hx hb hts dh_u7 tyX7 tyX7_ok nmX7 hown hK hP hD hS 0 rfl rfl 1 (by decide) (hts (.fieldLink RX7 15 RX7 "heap" "I") (dh_has_in (i := 264) (by decide +kernel))) (fun _ h9 => h9) rfl (by decide +kernel) rfl rfl (Nat.le_of_ble_eq_true rfl) di_Tale_11 (fun H locs hP hD hS => ?_)
  refine lv_aload_n hx hb di_Tale_14 rfl (lv_at hl 0 rfl) ?_
  refine lv_iconst (v := 0) hx hb di_Tale_15 (by decide) ?_
  refine va_put (D := D) (ci := 7) (v := .int 0) (ty := .int) (C := RX7) (T := TX7) (N := 5) hx hb hts dh_u7 tyX7 tyX7_ok nmX7 hown hK hP hD hS 0 rfl rfl 2 (by decide) (hts (.fieldLink RX7 19 RX7 "size" "I") (dh_has_in (i := 266) (by decide +kernel))) (fun _ h9 => h9) rfl (by decide +kernel) rfl rfl (Nat.le_of_ble_eq_true rfl) di_Tale_16 (fun H locs hP hD hS => ?_)
  refine lv_aload_n hx hb di_Tale_19 rfl (lv_at hl 0 rfl) ?_
  refine lv_bipush (v := 40) hx hb di_Tale_20 (by decide) ?_
  refine va_newa (atype := .int) (a0 := (40, .inl (fun _ => 0))) hx hb (hts _ dh_w_aI) rfl hK hP hD hS hA (fun _ => rfl) (by decide) (by decide) (by decide) (Nat.le_of_ble_eq_true rfl) (Nat.le_of_ble_eq_true rfl) di_Tale_22 (fun q1 cA H hK1 hP hD hS => ?_)
  obtain rfl := dh_ta1 hK1
  clear hK1
  refine va_putF (D := D) (ci := 7) (v := .ref q1) (ty := .array .int) (C := RX7) (T := TX7) (N := 5) hx hb hts dh_u7 tyX7 tyX7_ok nmX7 hown hK hP hD hS 0 rfl rfl 3 (by decide) (hts (.fieldLink RX7 22 RX7 "takes" "[I") (dh_has_in (i := 268) (by decide +kernel))) (fun _ h9 => h9) rfl hin rfl (by decide +kernel) rfl rfl (Nat.le_of_ble_eq_true rfl) di_Tale_24 (fun H locs hP hD hS => ?_)
  refine lv_aload_n hx hb di_Tale_27 rfl (lv_at hl 0 rfl) ?_
  refine lv_bipush (v := 40) hx hb di_Tale_28 (by decide) ?_
  refine va_newa (atype := .int) (a0 := (40, .inl (fun _ => 0))) hx hb (hts _ dh_w_aI) rfl hK hP hD hS hA (fun _ => rfl) (by decide) (by decide) (by decide) (Nat.le_of_ble_eq_true rfl) (Nat.le_of_ble_eq_true rfl) di_Tale_30 (fun q2 cA H hK1 hP hD hS => ?_)
  obtain rfl := dh_ta1 hK1
  clear hK1
  refine va_putF (D := D) (ci := 7) (v := .ref q2) (ty := .array .int) (C := RX7) (T := TX7) (N := 5) hx hb hts dh_u7 tyX7 tyX7_ok nmX7 hown hK hP hD hS 0 rfl rfl 4 (by decide) (hts (.fieldLink RX7 26 RX7 "heaps" "[I") (dh_has_in (i := 269) (by decide +kernel))) (fun _ h9 => h9) rfl hin rfl (by decide +kernel) rfl rfl (Nat.le_of_ble_eq_true rfl) di_Tale_32 (fun H locs hP hD hS => ?_)
  have hP9 : va_P D vwCl (dh_sg ta sg_Tale dh_z (h0 :: [q1, q2])) H := hP
  have hD9 : va_D A (dh_sg ta sg_Tale dh_z (h0 :: [q1, q2])) := hD
  refine W.widen (k := 2) (n := 80) (Nat.le_of_ble_eq_true rfl) (Nat.le_of_ble_eq_true rfl) ?_
  exact W.vret hx hb hr (fun t ht hW => ⟨⟨[q1, q2], rfl, rfl, by rw [ht]; exact hP9, hD9⟩, hS.F ht⟩) hS.2.2 di_Tale_35
def sg_Evening : List (Nat × Nat × Nat × Nat) := [(0, 0, 0, 0)]
def yi_Evening : MethodName := ⟨"DoubleHeap$Evening", "<init>", "()V"⟩
set_option maxRecDepth 100000 in
theorem cwi_Evening : Cond.code yi_Evening prog_2_method_1_code 1 none ∈ dh_B := dh_B_at 355 rfl rfl
theorem gwi_Evening : GoodIn dh_B (Cond.code yi_Evening prog_2_method_1_code 1 none :: dh_B) := fun w hw => (List.mem_cons.mp hw).elim (fun e => e ▸ dh_goodIn _ cwi_Evening) (fun h => dh_goodIn _ h)
theorem di_Evening_0 : decode prog_2_method_1_code 0 = .ok (.aload_n 0, 1) := by decide +kernel
theorem di_Evening_1 : decode prog_2_method_1_code 1 = .ok (.invokespecial 3, 3) := by decide +kernel
theorem di_Evening_4 : decode prog_2_method_1_code 4 = .ok (.aload_n 0, 1) := by decide +kernel
theorem di_Evening_5 : decode prog_2_method_1_code 5 = .ok (.iconst 0, 1) := by decide +kernel
theorem di_Evening_6 : decode prog_2_method_1_code 6 = .ok (.putfield 9, 3) := by decide +kernel
theorem di_Evening_9 : decode prog_2_method_1_code 9 = .ok (.aload_n 0, 1) := by decide +kernel
theorem di_Evening_10 : decode prog_2_method_1_code 10 = .ok (.iconst 0, 1) := by decide +kernel
theorem di_Evening_11 : decode prog_2_method_1_code 11 = .ok (.putfield 15, 3) := by decide +kernel
theorem di_Evening_14 : decode prog_2_method_1_code 14 = .ok (.return_, 1) := by decide +kernel
set_option maxHeartbeats 8000000 in
set_option maxRecDepth 100000 in
theorem k_Evening (l : Launch) (D : va_G) (ta : Nat → ClassId) (h0 sz : Nat) : Met l yi_Evening (Cond.code yi_Evening prog_2_method_1_code 1 none :: dh_B) ({ frames := 1, cells := 0, slots := 0, locals := 40 }) (dh_Pi D ta [.ref h0] [(h0, .inr (0, [.int 0, .int 0]))] sz) (va_Qv (fun u : List Nat => u.length = 0) (fun u t => va_P D vwCl (dh_sg ta sg_Evening dh_z (h0 :: u)) t.heap ∧ va_D (va_A [(h0, .inr (0, [.int 0, .int 0]))] sz) (dh_sg ta sg_Evening dh_z (h0 :: u))) (va_A [(h0, .inr (0, [.int 0, .int 0]))] sz)) 0 0 (va_A [(h0, .inr (0, [.int 0, .int 0]))] sz) := by
  refine Met.ofW (cc := prog_2_method_1_code) (maxL := 1) (ret := none) (by decide) rfl ?_
  intro p e s m args below meth c s₁ B hml hv
  obtain ⟨rfl, hsz, hP, hK, hD0, hN, hO⟩ := hv
  have hx := B.exec
  have hb := B.bytes
  have hr := B.returns
  have hts0 := atoms_spec (ws := Cond.code yi_Evening prog_2_method_1_code 1 none :: dh_B) B.pre
  have hts : ∀ w ∈ dh_B, w.before #[Value.ref h0] s = true := fun w hw => hts0 w (List.mem_cons_of_mem _ hw)
  have hown : s.vm.findClass RX0 = some m.cls := findClass_of_methodNamed B.named
  have hlocks := B.notSynchronized
  have hin : meth.name = "<init>" := (name_of_methodNamed B.named B.method).1
  subst hsz
  have hD := hD0.self (sz := s.heap.size)
  generalize hAe : va_A [(h0, .inr (0, [.int 0, .int 0]))] s.heap.size = A at hD ⊢
  have hA : ∀ q : Nat, s.heap.size ≤ q → A q := fun q h => by rw [← hAe]; exact Or.inr h
  have hS : va_S A s.heap s.heap [] := va_S.rf
  have hl := lv_entry ([.ref h0]) (n := 1) (Nat.le_of_ble_eq_true rfl)
  rw [lg_entry_eq]
  generalize (lg_sl ([.ref h0]) ++ List.replicate (1 - (lg_sl ([.ref h0])).length) Slot.unset).toArray = ls at hl ⊢
  have hl : lv_has ls 1 [(0, .ref h0)] := hl
  refine lv_aload_n hx hb di_Evening_0 rfl (lv_at hl 0 rfl) ?_
  refine W.objInit hx hb hown (hts (.methodLink RX0 3 Lib.objectInit) (dh_has_in (i := 356) (by decide +kernel))) (hts _ dh_w_oi) (hts _ dh_w_oc) rfl (by rw [hml]; exact hl.1) rfl di_Evening_1 (Nat.le_of_ble_eq_true rfl) (Nat.le_of_ble_eq_true rfl) ?_
  refine W.eq (g2 := F0 m 4 ls []) rfl ?_
  refine lv_aload_n hx hb di_Evening_4 rfl (lv_at hl 0 rfl) ?_
  refine lv_iconst (v := 0) hx hb di_Evening_5 (by decide) ?_
  refine va_put (D := D) (ci := 0) (v := .int 0) (ty := .int) (C := RX0) (T := TX0) (N := 2) hx hb hts dh_u0 tyX0 tyX0_ok nmX0 hown hK hP hD hS 0 rfl rfl 0 (by decide) (hts (.fieldLink RX0 9 RX0 "draw" "I") (dh_has_in (i := 357) (by decide +kernel))) (fun _ h9 => h9) rfl (by decide +kernel) rfl rfl (Nat.le_of_ble_eq_true rfl) di_Evening_6 (fun H locs hP hD hS => ?_)
  refine lv_aload_n hx hb di_Evening_9 rfl (lv_at hl 0 rfl) ?_
  refine lv_iconst (v := 0) hx hb di_Evening_10 (by decide) ?_
  refine va_put (D := D) (ci := 0) (v := .int 0) (ty := .int) (C := RX0) (T := TX0) (N := 2) hx hb hts dh_u0 tyX0 tyX0_ok nmX0 hown hK hP hD hS 0 rfl rfl 1 (by decide) (hts (.fieldLink RX0 15 RX0 "taken" "I") (dh_has_in (i := 359) (by decide +kernel))) (fun _ h9 => h9) rfl (by decide +kernel) rfl rfl (Nat.le_of_ble_eq_true rfl) di_Evening_11 (fun H locs hP hD hS => ?_)
  have hP9 : va_P D vwCl (dh_sg ta sg_Evening dh_z (h0 :: [])) H := hP
  have hD9 : va_D A (dh_sg ta sg_Evening dh_z (h0 :: [])) := hD
  refine W.widen (k := 0) (n := 0) (Nat.le_of_ble_eq_true rfl) (Nat.le_of_ble_eq_true rfl) ?_
  exact W.vret hx hb hr (fun t ht hW => ⟨⟨[], rfl, rfl, by rw [ht]; exact hP9, hD9⟩, hS.F ht⟩) hS.2.2 di_Evening_14
def sg_Walks : List (Nat × Nat × Nat × Nat) := [(0, 9, 0, 0), (1, 1681, 0, 0), (1, 1681, 0, 0), (1, 1681, 0, 0), (2, 1681, 0, 0), (2, 1681, 0, 0)]
def yi_Walks : MethodName := ⟨"DoubleHeap$Walks", "<init>", "()V"⟩
set_option maxRecDepth 100000 in
theorem cwi_Walks : Cond.code yi_Walks prog_11_method_1_code 1 none ∈ dh_B := dh_B_at 285 rfl rfl
theorem gwi_Walks : GoodIn dh_B (Cond.code yi_Walks prog_11_method_1_code 1 none :: dh_B) := fun w hw => (List.mem_cons.mp hw).elim (fun e => e ▸ dh_goodIn _ cwi_Walks) (fun h => dh_goodIn _ h)
theorem di_Walks_0 : decode prog_11_method_1_code 0 = .ok (.aload_n 0, 1) := by decide +kernel
theorem di_Walks_1 : decode prog_11_method_1_code 1 = .ok (.invokespecial 3, 3) := by decide +kernel
theorem di_Walks_4 : decode prog_11_method_1_code 4 = .ok (.aload_n 0, 1) := by decide +kernel
theorem di_Walks_5 : decode prog_11_method_1_code 5 = .ok (.sipush 1681, 3) := by decide +kernel
theorem di_Walks_8 : decode prog_11_method_1_code 8 = .ok (.newarray .int, 2) := by decide +kernel
theorem di_Walks_10 : decode prog_11_method_1_code 10 = .ok (.putfield 9, 3) := by decide +kernel
theorem di_Walks_13 : decode prog_11_method_1_code 13 = .ok (.aload_n 0, 1) := by decide +kernel
theorem di_Walks_14 : decode prog_11_method_1_code 14 = .ok (.sipush 1681, 3) := by decide +kernel
theorem di_Walks_17 : decode prog_11_method_1_code 17 = .ok (.newarray .int, 2) := by decide +kernel
theorem di_Walks_19 : decode prog_11_method_1_code 19 = .ok (.putfield 15, 3) := by decide +kernel
theorem di_Walks_22 : decode prog_11_method_1_code 22 = .ok (.aload_n 0, 1) := by decide +kernel
theorem di_Walks_23 : decode prog_11_method_1_code 23 = .ok (.sipush 1681, 3) := by decide +kernel
theorem di_Walks_26 : decode prog_11_method_1_code 26 = .ok (.newarray .int, 2) := by decide +kernel
theorem di_Walks_28 : decode prog_11_method_1_code 28 = .ok (.putfield 18, 3) := by decide +kernel
theorem di_Walks_31 : decode prog_11_method_1_code 31 = .ok (.aload_n 0, 1) := by decide +kernel
theorem di_Walks_32 : decode prog_11_method_1_code 32 = .ok (.sipush 1681, 3) := by decide +kernel
theorem di_Walks_35 : decode prog_11_method_1_code 35 = .ok (.newarray .long, 2) := by decide +kernel
theorem di_Walks_37 : decode prog_11_method_1_code 37 = .ok (.putfield 21, 3) := by decide +kernel
theorem di_Walks_40 : decode prog_11_method_1_code 40 = .ok (.aload_n 0, 1) := by decide +kernel
theorem di_Walks_41 : decode prog_11_method_1_code 41 = .ok (.sipush 1681, 3) := by decide +kernel
theorem di_Walks_44 : decode prog_11_method_1_code 44 = .ok (.newarray .long, 2) := by decide +kernel
theorem di_Walks_46 : decode prog_11_method_1_code 46 = .ok (.putfield 25, 3) := by decide +kernel
theorem di_Walks_49 : decode prog_11_method_1_code 49 = .ok (.return_, 1) := by decide +kernel
set_option maxHeartbeats 8000000 in
set_option maxRecDepth 100000 in
theorem k_Walks (l : Launch) (D : va_G) (ta : Nat → ClassId) (h0 sz : Nat) : Met l yi_Walks (Cond.code yi_Walks prog_11_method_1_code 1 none :: dh_B) ({ frames := 1, cells := 5, slots := 8405, locals := 40 }) (dh_Pi D ta [.ref h0] [(h0, .inr (9, [.null, .null, .null, .null, .null]))] sz) (va_Qv (fun u : List Nat => u.length = 5) (fun u t => va_P D vwCl (dh_sg ta sg_Walks dh_z (h0 :: u)) t.heap ∧ va_D (va_A [(h0, .inr (9, [.null, .null, .null, .null, .null]))] sz) (dh_sg ta sg_Walks dh_z (h0 :: u))) (va_A [(h0, .inr (9, [.null, .null, .null, .null, .null]))] sz)) 5 8405 (va_A [(h0, .inr (9, [.null, .null, .null, .null, .null]))] sz) := by
  refine Met.ofW (cc := prog_11_method_1_code) (maxL := 1) (ret := none) (by decide) rfl ?_
  intro p e s m args below meth c s₁ B hml hv
  obtain ⟨rfl, hsz, hP, hK, hD0, hN, hO⟩ := hv
  have hx := B.exec
  have hb := B.bytes
  have hr := B.returns
  have hts0 := atoms_spec (ws := Cond.code yi_Walks prog_11_method_1_code 1 none :: dh_B) B.pre
  have hts : ∀ w ∈ dh_B, w.before #[Value.ref h0] s = true := fun w hw => hts0 w (List.mem_cons_of_mem _ hw)
  have hown : s.vm.findClass RX9 = some m.cls := findClass_of_methodNamed B.named
  have hlocks := B.notSynchronized
  have hin : meth.name = "<init>" := (name_of_methodNamed B.named B.method).1
  subst hsz
  have hD := hD0.self (sz := s.heap.size)
  generalize hAe : va_A [(h0, .inr (9, [.null, .null, .null, .null, .null]))] s.heap.size = A at hD ⊢
  have hA : ∀ q : Nat, s.heap.size ≤ q → A q := fun q h => by rw [← hAe]; exact Or.inr h
  have hS : va_S A s.heap s.heap [] := va_S.rf
  have hl := lv_entry ([.ref h0]) (n := 1) (Nat.le_of_ble_eq_true rfl)
  rw [lg_entry_eq]
  generalize (lg_sl ([.ref h0]) ++ List.replicate (1 - (lg_sl ([.ref h0])).length) Slot.unset).toArray = ls at hl ⊢
  have hl : lv_has ls 1 [(0, .ref h0)] := hl
  refine lv_aload_n hx hb di_Walks_0 rfl (lv_at hl 0 rfl) ?_
  refine W.objInit hx hb hown (hts (.methodLink RX9 3 Lib.objectInit) (dh_has_in (i := 286) (by decide +kernel))) (hts _ dh_w_oi) (hts _ dh_w_oc) rfl (by rw [hml]; exact hl.1) rfl di_Walks_1 (Nat.le_of_ble_eq_true rfl) (Nat.le_of_ble_eq_true rfl) ?_
  refine W.eq (g2 := F0 m 4 ls []) rfl ?_
  refine lv_aload_n hx hb di_Walks_4 rfl (lv_at hl 0 rfl) ?_
  refine lv_sipush (v := 1681) hx hb di_Walks_5 (by decide) ?_
  refine va_newa (atype := .int) (a0 := (1681, .inl (fun _ => 0))) hx hb (hts _ dh_w_aI) rfl hK hP hD hS hA (fun _ => rfl) (by decide) (by decide) (by decide) (Nat.le_of_ble_eq_true rfl) (Nat.le_of_ble_eq_true rfl) di_Walks_8 (fun q1 cA H hK1 hP hD hS => ?_)
  obtain rfl := dh_ta1 hK1
  clear hK1
  refine va_putF (D := D) (ci := 9) (v := .ref q1) (ty := .array .int) (C := RX9) (T := TX9) (N := 5) hx hb hts dh_u9 tyX9 tyX9_ok nmX9 hown hK hP hD hS 0 rfl rfl 0 (by decide) (hts (.fieldLink RX9 9 RX9 "far" "[I") (dh_has_in (i := 287) (by decide +kernel))) (fun _ h9 => h9) rfl hin rfl (by decide +kernel) rfl rfl (Nat.le_of_ble_eq_true rfl) di_Walks_10 (fun H locs hP hD hS => ?_)
  refine lv_aload_n hx hb di_Walks_13 rfl (lv_at hl 0 rfl) ?_
  refine lv_sipush (v := 1681) hx hb di_Walks_14 (by decide) ?_
  refine va_newa (atype := .int) (a0 := (1681, .inl (fun _ => 0))) hx hb (hts _ dh_w_aI) rfl hK hP hD hS hA (fun _ => rfl) (by decide) (by decide) (by decide) (Nat.le_of_ble_eq_true rfl) (Nat.le_of_ble_eq_true rfl) di_Walks_17 (fun q2 cA H hK1 hP hD hS => ?_)
  obtain rfl := dh_ta1 hK1
  clear hK1
  refine va_putF (D := D) (ci := 9) (v := .ref q2) (ty := .array .int) (C := RX9) (T := TX9) (N := 5) hx hb hts dh_u9 tyX9 tyX9_ok nmX9 hown hK hP hD hS 0 rfl rfl 1 (by decide) (hts (.fieldLink RX9 15 RX9 "hers" "[I") (dh_has_in (i := 288) (by decide +kernel))) (fun _ h9 => h9) rfl hin rfl (by decide +kernel) rfl rfl (Nat.le_of_ble_eq_true rfl) di_Walks_19 (fun H locs hP hD hS => ?_)
  refine lv_aload_n hx hb di_Walks_22 rfl (lv_at hl 0 rfl) ?_
  refine lv_sipush (v := 1681) hx hb di_Walks_23 (by decide) ?_
  refine va_newa (atype := .int) (a0 := (1681, .inl (fun _ => 0))) hx hb (hts _ dh_w_aI) rfl hK hP hD hS hA (fun _ => rfl) (by decide) (by decide) (by decide) (Nat.le_of_ble_eq_true rfl) (Nat.le_of_ble_eq_true rfl) di_Walks_26 (fun q3 cA H hK1 hP hD hS => ?_)
  obtain rfl := dh_ta1 hK1
  clear hK1
  refine va_putF (D := D) (ci := 9) (v := .ref q3) (ty := .array .int) (C := RX9) (T := TX9) (N := 5) hx hb hts dh_u9 tyX9 tyX9_ok nmX9 hown hK hP hD hS 0 rfl rfl 2 (by decide) (hts (.fieldLink RX9 18 RX9 "childs" "[I") (dh_has_in (i := 289) (by decide +kernel))) (fun _ h9 => h9) rfl hin rfl (by decide +kernel) rfl rfl (Nat.le_of_ble_eq_true rfl) di_Walks_28 (fun H locs hP hD hS => ?_)
  refine lv_aload_n hx hb di_Walks_31 rfl (lv_at hl 0 rfl) ?_
  refine lv_sipush (v := 1681) hx hb di_Walks_32 (by decide) ?_
  refine va_newa (atype := .long) (a0 := (1681, .inr (.inl (fun _ => 0)))) hx hb (hts _ dh_w_aJ) rfl hK hP hD hS hA (fun _ => rfl) (by decide) (by decide) (by decide) (Nat.le_of_ble_eq_true rfl) (Nat.le_of_ble_eq_true rfl) di_Walks_35 (fun q4 cA H hK1 hP hD hS => ?_)
  obtain rfl := dh_ta2 hK1
  clear hK1
  refine va_putF (D := D) (ci := 9) (v := .ref q4) (ty := .array .long) (C := RX9) (T := TX9) (N := 5) hx hb hts dh_u9 tyX9 tyX9_ok nmX9 hown hK hP hD hS 0 rfl rfl 3 (by decide) (hts (.fieldLink RX9 21 RX9 "won" "[J") (dh_has_in (i := 290) (by decide +kernel))) (fun _ h9 => h9) rfl hin rfl (by decide +kernel) rfl rfl (Nat.le_of_ble_eq_true rfl) di_Walks_37 (fun H locs hP hD hS => ?_)
  refine lv_aload_n hx hb di_Walks_40 rfl (lv_at hl 0 rfl) ?_
  refine lv_sipush (v := 1681) hx hb di_Walks_41 (by decide) ?_
  refine va_newa (atype := .long) (a0 := (1681, .inr (.inl (fun _ => 0)))) hx hb (hts _ dh_w_aJ) rfl hK hP hD hS hA (fun _ => rfl) (by decide) (by decide) (by decide) (Nat.le_of_ble_eq_true rfl) (Nat.le_of_ble_eq_true rfl) di_Walks_44 (fun q5 cA H hK1 hP hD hS => ?_)
  obtain rfl := dh_ta2 hK1
  clear hK1
  refine va_putF (D := D) (ci := 9) (v := .ref q5) (ty := .array .long) (C := RX9) (T := TX9) (N := 5) hx hb hts dh_u9 tyX9 tyX9_ok nmX9 hown hK hP hD hS 0 rfl rfl 4 (by decide) (hts (.fieldLink RX9 25 RX9 "lost" "[J") (dh_has_in (i := 291) (by decide +kernel))) (fun _ h9 => h9) rfl hin rfl (by decide +kernel) rfl rfl (Nat.le_of_ble_eq_true rfl) di_Walks_46 (fun H locs hP hD hS => ?_)
  have hP9 : va_P D vwCl (dh_sg ta sg_Walks dh_z (h0 :: [q1, q2, q3, q4, q5])) H := hP
  have hD9 : va_D A (dh_sg ta sg_Walks dh_z (h0 :: [q1, q2, q3, q4, q5])) := hD
  refine W.widen (k := 5) (n := 8405) (Nat.le_of_ble_eq_true rfl) (Nat.le_of_ble_eq_true rfl) ?_
  exact W.vret hx hb hr (fun t ht hW => ⟨⟨[q1, q2, q3, q4, q5], rfl, rfl, by rw [ht]; exact hP9, hD9⟩, hS.F ht⟩) hS.2.2 di_Walks_49
def sg_Rivals : List (Nat × Nat × Nat × Nat) := [(0, 4, 0, 0), (2, 441, 0, 0), (2, 41, 0, 0), (2, 41, 0, 0), (2, 41, 0, 0), (2, 164, 0, 0)]
def yi_Rivals : MethodName := ⟨"DoubleHeap$Rivals", "<init>", "()V"⟩
set_option maxRecDepth 100000 in
theorem cwi_Rivals : Cond.code yi_Rivals prog_6_method_1_code 1 none ∈ dh_B := dh_B_at 308 rfl rfl
theorem gwi_Rivals : GoodIn dh_B (Cond.code yi_Rivals prog_6_method_1_code 1 none :: dh_B) := fun w hw => (List.mem_cons.mp hw).elim (fun e => e ▸ dh_goodIn _ cwi_Rivals) (fun h => dh_goodIn _ h)
theorem di_Rivals_0 : decode prog_6_method_1_code 0 = .ok (.aload_n 0, 1) := by decide +kernel
theorem di_Rivals_1 : decode prog_6_method_1_code 1 = .ok (.invokespecial 3, 3) := by decide +kernel
theorem di_Rivals_4 : decode prog_6_method_1_code 4 = .ok (.aload_n 0, 1) := by decide +kernel
theorem di_Rivals_5 : decode prog_6_method_1_code 5 = .ok (.sipush 441, 3) := by decide +kernel
theorem di_Rivals_8 : decode prog_6_method_1_code 8 = .ok (.newarray .long, 2) := by decide +kernel
theorem di_Rivals_10 : decode prog_6_method_1_code 10 = .ok (.putfield 11, 3) := by decide +kernel
theorem di_Rivals_13 : decode prog_6_method_1_code 13 = .ok (.aload_n 0, 1) := by decide +kernel
theorem di_Rivals_14 : decode prog_6_method_1_code 14 = .ok (.bipush 41, 2) := by decide +kernel
theorem di_Rivals_16 : decode prog_6_method_1_code 16 = .ok (.newarray .long, 2) := by decide +kernel
theorem di_Rivals_18 : decode prog_6_method_1_code 18 = .ok (.putfield 15, 3) := by decide +kernel
theorem di_Rivals_21 : decode prog_6_method_1_code 21 = .ok (.aload_n 0, 1) := by decide +kernel
theorem di_Rivals_22 : decode prog_6_method_1_code 22 = .ok (.bipush 41, 2) := by decide +kernel
theorem di_Rivals_24 : decode prog_6_method_1_code 24 = .ok (.newarray .long, 2) := by decide +kernel
theorem di_Rivals_26 : decode prog_6_method_1_code 26 = .ok (.putfield 18, 3) := by decide +kernel
theorem di_Rivals_29 : decode prog_6_method_1_code 29 = .ok (.aload_n 0, 1) := by decide +kernel
theorem di_Rivals_30 : decode prog_6_method_1_code 30 = .ok (.bipush 41, 2) := by decide +kernel
theorem di_Rivals_32 : decode prog_6_method_1_code 32 = .ok (.newarray .long, 2) := by decide +kernel
theorem di_Rivals_34 : decode prog_6_method_1_code 34 = .ok (.putfield 21, 3) := by decide +kernel
theorem di_Rivals_37 : decode prog_6_method_1_code 37 = .ok (.aload_n 0, 1) := by decide +kernel
theorem di_Rivals_38 : decode prog_6_method_1_code 38 = .ok (.sipush 164, 3) := by decide +kernel
theorem di_Rivals_41 : decode prog_6_method_1_code 41 = .ok (.newarray .long, 2) := by decide +kernel
theorem di_Rivals_43 : decode prog_6_method_1_code 43 = .ok (.putfield 24, 3) := by decide +kernel
theorem di_Rivals_46 : decode prog_6_method_1_code 46 = .ok (.return_, 1) := by decide +kernel
set_option maxHeartbeats 8000000 in
set_option maxRecDepth 100000 in
theorem k_Rivals (l : Launch) (D : va_G) (ta : Nat → ClassId) (h0 sz : Nat) : Met l yi_Rivals (Cond.code yi_Rivals prog_6_method_1_code 1 none :: dh_B) ({ frames := 1, cells := 5, slots := 728, locals := 40 }) (dh_Pi D ta [.ref h0] [(h0, .inr (4, [.null, .null, .null, .null, .null]))] sz) (va_Qv (fun u : List Nat => u.length = 5) (fun u t => va_P D vwCl (dh_sg ta sg_Rivals dh_z (h0 :: u)) t.heap ∧ va_D (va_A [(h0, .inr (4, [.null, .null, .null, .null, .null]))] sz) (dh_sg ta sg_Rivals dh_z (h0 :: u))) (va_A [(h0, .inr (4, [.null, .null, .null, .null, .null]))] sz)) 5 728 (va_A [(h0, .inr (4, [.null, .null, .null, .null, .null]))] sz) := by
  refine Met.ofW (cc := prog_6_method_1_code) (maxL := 1) (ret := none) (by decide) rfl ?_
  intro p e s m args below meth c s₁ B hml hv
  obtain ⟨rfl, hsz, hP, hK, hD0, hN, hO⟩ := hv
  have hx := B.exec
  have hb := B.bytes
  have hr := B.returns
  have hts0 := atoms_spec (ws := Cond.code yi_Rivals prog_6_method_1_code 1 none :: dh_B) B.pre
  have hts : ∀ w ∈ dh_B, w.before #[Value.ref h0] s = true := fun w hw => hts0 w (List.mem_cons_of_mem _ hw)
  have hown : s.vm.findClass RX4 = some m.cls := findClass_of_methodNamed B.named
  have hlocks := B.notSynchronized
  have hin : meth.name = "<init>" := (name_of_methodNamed B.named B.method).1
  subst hsz
  have hD := hD0.self (sz := s.heap.size)
  generalize hAe : va_A [(h0, .inr (4, [.null, .null, .null, .null, .null]))] s.heap.size = A at hD ⊢
  have hA : ∀ q : Nat, s.heap.size ≤ q → A q := fun q h => by rw [← hAe]; exact Or.inr h
  have hS : va_S A s.heap s.heap [] := va_S.rf
  have hl := lv_entry ([.ref h0]) (n := 1) (Nat.le_of_ble_eq_true rfl)
  rw [lg_entry_eq]
  generalize (lg_sl ([.ref h0]) ++ List.replicate (1 - (lg_sl ([.ref h0])).length) Slot.unset).toArray = ls at hl ⊢
  have hl : lv_has ls 1 [(0, .ref h0)] := hl
  refine lv_aload_n hx hb di_Rivals_0 rfl (lv_at hl 0 rfl) ?_
  refine W.objInit hx hb hown (hts (.methodLink RX4 3 Lib.objectInit) (dh_has_in (i := 309) (by decide +kernel))) (hts _ dh_w_oi) (hts _ dh_w_oc) rfl (by rw [hml]; exact hl.1) rfl di_Rivals_1 (Nat.le_of_ble_eq_true rfl) (Nat.le_of_ble_eq_true rfl) ?_
  refine W.eq (g2 := F0 m 4 ls []) rfl ?_
  refine lv_aload_n hx hb di_Rivals_4 rfl (lv_at hl 0 rfl) ?_
  refine lv_sipush (v := 441) hx hb di_Rivals_5 (by decide) ?_
  refine va_newa (atype := .long) (a0 := (441, .inr (.inl (fun _ => 0)))) hx hb (hts _ dh_w_aJ) rfl hK hP hD hS hA (fun _ => rfl) (by decide) (by decide) (by decide) (Nat.le_of_ble_eq_true rfl) (Nat.le_of_ble_eq_true rfl) di_Rivals_8 (fun q1 cA H hK1 hP hD hS => ?_)
  obtain rfl := dh_ta2 hK1
  clear hK1
  refine va_putF (D := D) (ci := 4) (v := .ref q1) (ty := .array .long) (C := RX4) (T := TX4) (N := 5) hx hb hts dh_u4 tyX4 tyX4_ok nmX4 hown hK hP hD hS 0 rfl rfl 0 (by decide) (hts (.fieldLink RX4 11 RX4 "twins" "[J") (dh_has_in (i := 310) (by decide +kernel))) (fun _ h9 => h9) rfl hin rfl (by decide +kernel) rfl rfl (Nat.le_of_ble_eq_true rfl) di_Rivals_10 (fun H locs hP hD hS => ?_)
  refine lv_aload_n hx hb di_Rivals_13 rfl (lv_at hl 0 rfl) ?_
  refine lv_bipush (v := 41) hx hb di_Rivals_14 (by decide) ?_
  refine va_newa (atype := .long) (a0 := (41, .inr (.inl (fun _ => 0)))) hx hb (hts _ dh_w_aJ) rfl hK hP hD hS hA (fun _ => rfl) (by decide) (by decide) (by decide) (Nat.le_of_ble_eq_true rfl) (Nat.le_of_ble_eq_true rfl) di_Rivals_16 (fun q2 cA H hK1 hP hD hS => ?_)
  obtain rfl := dh_ta2 hK1
  clear hK1
  refine va_putF (D := D) (ci := 4) (v := .ref q2) (ty := .array .long) (C := RX4) (T := TX4) (N := 5) hx hb hts dh_u4 tyX4 tyX4_ok nmX4 hown hK hP hD hS 0 rfl rfl 1 (by decide) (hts (.fieldLink RX4 15 RX4 "lost" "[J") (dh_has_in (i := 311) (by decide +kernel))) (fun _ h9 => h9) rfl hin rfl (by decide +kernel) rfl rfl (Nat.le_of_ble_eq_true rfl) di_Rivals_18 (fun H locs hP hD hS => ?_)
  refine lv_aload_n hx hb di_Rivals_21 rfl (lv_at hl 0 rfl) ?_
  refine lv_bipush (v := 41) hx hb di_Rivals_22 (by decide) ?_
  refine va_newa (atype := .long) (a0 := (41, .inr (.inl (fun _ => 0)))) hx hb (hts _ dh_w_aJ) rfl hK hP hD hS hA (fun _ => rfl) (by decide) (by decide) (by decide) (Nat.le_of_ble_eq_true rfl) (Nat.le_of_ble_eq_true rfl) di_Rivals_24 (fun q3 cA H hK1 hP hD hS => ?_)
  obtain rfl := dh_ta2 hK1
  clear hK1
  refine va_putF (D := D) (ci := 4) (v := .ref q3) (ty := .array .long) (C := RX4) (T := TX4) (N := 5) hx hb hts dh_u4 tyX4 tyX4_ok nmX4 hown hK hP hD hS 0 rfl rfl 2 (by decide) (hts (.fieldLink RX4 18 RX4 "losing" "[J") (dh_has_in (i := 312) (by decide +kernel))) (fun _ h9 => h9) rfl hin rfl (by decide +kernel) rfl rfl (Nat.le_of_ble_eq_true rfl) di_Rivals_26 (fun H locs hP hD hS => ?_)
  refine lv_aload_n hx hb di_Rivals_29 rfl (lv_at hl 0 rfl) ?_
  refine lv_bipush (v := 41) hx hb di_Rivals_30 (by decide) ?_
  refine va_newa (atype := .long) (a0 := (41, .inr (.inl (fun _ => 0)))) hx hb (hts _ dh_w_aJ) rfl hK hP hD hS hA (fun _ => rfl) (by decide) (by decide) (by decide) (Nat.le_of_ble_eq_true rfl) (Nat.le_of_ble_eq_true rfl) di_Rivals_32 (fun q4 cA H hK1 hP hD hS => ?_)
  obtain rfl := dh_ta2 hK1
  clear hK1
  refine va_putF (D := D) (ci := 4) (v := .ref q4) (ty := .array .long) (C := RX4) (T := TX4) (N := 5) hx hb hts dh_u4 tyX4 tyX4_ok nmX4 hown hK hP hD hS 0 rfl rfl 3 (by decide) (hts (.fieldLink RX4 21 RX4 "othersLosing" "[J") (dh_has_in (i := 313) (by decide +kernel))) (fun _ h9 => h9) rfl hin rfl (by decide +kernel) rfl rfl (Nat.le_of_ble_eq_true rfl) di_Rivals_34 (fun H locs hP hD hS => ?_)
  refine lv_aload_n hx hb di_Rivals_37 rfl (lv_at hl 0 rfl) ?_
  refine lv_sipush (v := 164) hx hb di_Rivals_38 (by decide) ?_
  refine va_newa (atype := .long) (a0 := (164, .inr (.inl (fun _ => 0)))) hx hb (hts _ dh_w_aJ) rfl hK hP hD hS hA (fun _ => rfl) (by decide) (by decide) (by decide) (Nat.le_of_ble_eq_true rfl) (Nat.le_of_ble_eq_true rfl) di_Rivals_41 (fun q5 cA H hK1 hP hD hS => ?_)
  obtain rfl := dh_ta2 hK1
  clear hK1
  refine va_putF (D := D) (ci := 4) (v := .ref q5) (ty := .array .long) (C := RX4) (T := TX4) (N := 5) hx hb hts dh_u4 tyX4 tyX4_ok nmX4 hown hK hP hD hS 0 rfl rfl 4 (by decide) (hts (.fieldLink RX4 24 RX4 "passing" "[J") (dh_has_in (i := 314) (by decide +kernel))) (fun _ h9 => h9) rfl hin rfl (by decide +kernel) rfl rfl (Nat.le_of_ble_eq_true rfl) di_Rivals_43 (fun H locs hP hD hS => ?_)
  have hP9 : va_P D vwCl (dh_sg ta sg_Rivals dh_z (h0 :: [q1, q2, q3, q4, q5])) H := hP
  have hD9 : va_D A (dh_sg ta sg_Rivals dh_z (h0 :: [q1, q2, q3, q4, q5])) := hD
  refine W.widen (k := 5) (n := 728) (Nat.le_of_ble_eq_true rfl) (Nat.le_of_ble_eq_true rfl) ?_
  exact W.vret hx hb hr (fun t ht hW => ⟨⟨[q1, q2, q3, q4, q5], rfl, rfl, by rw [ht]; exact hP9, hD9⟩, hS.F ht⟩) hS.2.2 di_Rivals_46
