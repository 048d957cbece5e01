theorem dh_shl_split : dh_shl = sg_Heap ++ sg_Model := by decide +kernel
theorem dh_clos_h : dh_clos 147 0 sg_Heap = true := by decide +kernel
theorem dh_clos_m : dh_clos 34 0 sg_Model = true := by decide +kernel
theorem dh_ws_split {adr : Nat → Nat} {ta : Nat → ClassId} {ri : Nat → Nat → Int32} {as1 as2 : List Nat} (h1 : ∀ j, j < 147 → adr j = as1.getD j 0) (h2 : ∀ j, j < 34 → adr (147 + j) = as2.getD j 0) (r1 : ∀ p, p < 147 → ri p = dh_r1 p) (r2 : ∀ p, p < 34 → ri (147 + p) = dh_r2 p) :
    dh_ws adr ta ri (fun _ _ => 0) = dh_sg ta sg_Heap dh_r1 as1 ++ dh_sg ta sg_Model dh_r2 as2 := by
  have hl1 : sg_Heap.length = 147 := by decide +kernel
  have hl2 : sg_Model.length = 34 := by decide +kernel
  have hs1 : (dh_sg ta sg_Heap dh_r1 as1).length = 147 := by
    have : ∀ {α β : Type} {f : Nat → α → β} (l : List α) (o : Nat), (dh_sgG f o l).length = l.length := by
      intro α β f l
      induction l with
      | nil => intro o; rfl
      | cons a l ih => intro o; simp [dh_sgG, ih]
    unfold dh_sg
    rw [this, hl1]
  apply List.ext_getElem?
  intro k
  have hsh : dh_sh k = (sg_Heap ++ sg_Model)[k]? := by unfold dh_sh; rw [dh_shl_split]
  by_cases hk : k < 147
  · rw [List.getElem?_append_left (by omega)] at hsh ⊢
    unfold dh_sg
    rw [dh_sgG_get]
    cases hs : sg_Heap[k]? with
    | none =>
      have := List.getElem?_eq_none_iff.mp hs
      omega
    | some s =>
      rw [hs] at hsh
      rw [dh_ws_at hsh, Option.map_some, Nat.zero_add, h1 k hk]
      have := dh_e_ext (adr := adr) (adr' := fun j => as1.getD j 0) (ta := ta) (ri := ri) (ri' := dh_r1) (rl := fun _ _ => 0) (rl' := fun _ _ => 0) (n := 147) (o := 0) (k := k) (s := s) (fun j hj => by rw [Nat.zero_add]; exact h1 j hj) (by rw [Nat.zero_add]; exact r1 k hk) rfl (by have := dh_clos_at dh_clos_h hs; rw [Nat.zero_add] at this; exact this)
      rw [Nat.zero_add] at this
      rw [this]
  · rw [List.getElem?_append_right (by omega)] at hsh ⊢
    rw [hl1] at hsh
    rw [hs1]
    unfold dh_sg
    rw [dh_sgG_get]
    cases hs : sg_Model[k - 147]? with
    | none =>
      rw [hs] at hsh
      rw [dh_ws_no hsh]
      rfl
    | some s =>
      rw [hs] at hsh
      have hk2 : k - 147 < 34 := by
        have := (List.getElem?_eq_some_iff.mp hs).1
        omega
      have ek : k = 147 + (k - 147) := by omega
      rw [dh_ws_at hsh, Option.map_some, Nat.zero_add]
      have := dh_e_ext (adr := adr) (adr' := fun j => as2.getD j 0) (ta := ta) (ri := ri) (ri' := dh_r2) (rl := fun _ _ => 0) (rl' := fun _ _ => 0) (n := 34) (o := 147) (k := k - 147) (s := s) h2 (r2 _ hk2) rfl (by have := dh_clos_at dh_clos_m hs; rw [Nat.zero_add] at this; exact this)
      rw [← ek] at this
      rw [this, ← h2 _ hk2, ← ek]
/-- the heap at the start: the script at place 1000, three ones -/
def dh_r0 (xs : Nat → Int32) : Nat → Nat → Int32 := fun p => if p = 1000 then xs else if p < 147 then dh_r1 p else dh_r2 (p - 147)
theorem di_law_0 : decode code 0 = .ok (.new 7, 3) := by decide +kernel
theorem di_law_3 : decode code 3 = .ok (.dup, 1) := by decide +kernel
theorem di_law_4 : decode code 4 = .ok (.invokespecial 9, 3) := by decide +kernel
theorem di_law_7 : decode code 7 = .ok (.astore_n 1, 1) := by decide +kernel
theorem di_law_8 : decode code 8 = .ok (.new 10, 3) := by decide +kernel
theorem di_law_11 : decode code 11 = .ok (.dup, 1) := by decide +kernel
theorem di_law_12 : decode code 12 = .ok (.invokespecial 12, 3) := by decide +kernel
theorem di_law_15 : decode code 15 = .ok (.astore_n 2, 1) := by decide +kernel
set_option maxHeartbeats 8000000 in
set_option maxRecDepth 100000 in
theorem dh_start (hpure : ∀ (L : Nat) (xs : Nat → Int32), L ≤ 3584 → dh_wp (dh_shL L) (dh_wpM 200) (dh_bl 256) (fun v _ => v = some (.inl 1)) 0 [some (.inr (.inr (some 1000))), some (.inr (.inr (some 0))), some (.inr (.inr (some 147))), none] [] (dh_ab (dh_r0 xs) (fun _ _ => 0))) {p : Program} {e : Env} {s : State} {m : MethodId} {below : List Frame} {meth : Method} {c : Code} (l : Launch) {b L : Nat} {xs : Nat → Int32} (hL : L ≤ 3584) (C0 : lw_At p s m meth c b L xs) : W p l e room_1 s m #[Value.ref b] below meth c s.heap [] 0 0 (lw_Z below #[Value.ref b] s) (entryFrame m ([Value.ref b] : List Value).toArray 4) := by
  obtain ⟨hx, hb, hr, hml, hown, hts0, hX, hbl, hlocks, hgv⟩ := id C0
  have hts : ∀ w ∈ dh_B, w.before #[Value.ref b] s = true := fun w hw => hts0 w (dh_B_tbl hw)
  have hN : dh_NW s := dh_NW_of hts0
  have hA : ∀ q : Nat, s.heap.size ≤ q → (fun q : Nat => s.heap.size ≤ q) q := fun _ h => h
  obtain ⟨c0, iS0, hKn0⟩ := u_known (C := RX0) (T := TX0) (N := 2) (n := 2) hts dh_u0 (hts (.instantiable RX0 2) (dh_has_in (i := 352) (by decide +kernel)))
  obtain ⟨c1, iS1, hKn1⟩ := u_known (C := RX1) (T := TX1) (N := 5) (n := 5) hts dh_u1 (hts (.instantiable RX1 5) (dh_has_in (i := 392) (by decide +kernel)))
  obtain ⟨c2, iS2, hKn2⟩ := u_known (C := RX2) (T := TX2) (N := 5) (n := 5) hts dh_u2 (hts (.instantiable RX2 5) (dh_has_in (i := 195) (by decide +kernel)))
  obtain ⟨c3, iS3, hKn3⟩ := u_known (C := RX3) (T := TX3) (N := 5) (n := 5) hts dh_u3 (hts (.instantiable RX3 5) (dh_has_in (i := 327) (by decide +kernel)))
  obtain ⟨c4, iS4, hKn4⟩ := u_known (C := RX4) (T := TX4) (N := 5) (n := 5) hts dh_u4 (hts (.instantiable RX4 5) (dh_has_in (i := 305) (by decide +kernel)))
  obtain ⟨c5, iS5, hKn5⟩ := u_known (C := RX5) (T := TX5) (N := 10) (n := 10) hts dh_u5 (hts (.instantiable RX5 10) (dh_has_in (i := 201) (by decide +kernel)))
  obtain ⟨c6, iS6, hKn6⟩ := u_known (C := RX6) (T := TX6) (N := 5) (n := 5) hts dh_u6 (hts (.instantiable RX6 5) (dh_has_in (i := 367) (by decide +kernel)))
  obtain ⟨c7, iS7, hKn7⟩ := u_known (C := RX7) (T := TX7) (N := 5) (n := 5) hts dh_u7 (hts (.instantiable RX7 5) (dh_has_in (i := 257) (by decide +kernel)))
  obtain ⟨c8, iS8, hKn8⟩ := u_known (C := RX8) (T := TX8) (N := 2) (n := 2) hts dh_u8 (hts (.instantiable RX8 2) (dh_has_in (i := 176) (by decide +kernel)))
  obtain ⟨c9, iS9, hKn9⟩ := u_known (C := RX9) (T := TX9) (N := 5) (n := 5) hts dh_u9 (hts (.instantiable RX9 5) (dh_has_in (i := 282) (by decide +kernel)))
  obtain ⟨c10, iS10, hKn10⟩ := u_known (C := RX10) (T := TX10) (N := 14) (n := 14) hts dh_u10 (hts (.instantiable RX10 14) (dh_has_in (i := 168) (by decide +kernel)))
  obtain ⟨c11, iS11, hKn11⟩ := u_known (C := RX11) (T := TX11) (N := 58) (n := 58) hts dh_u11 (hts (.instantiable RX11 58) (dh_has_in (i := 1105) (by decide +kernel)))
  obtain ⟨D, hKc⟩ : ∃ D : va_G, ∀ (k : Nat) (q : vw_C), vwCl[k]? = some q → u_Kn s q.1 q.2.1 q.2.2 (D.1 k) (D.2 k) := by
    refine ⟨(fun k => ([c0, c1, c2, c3, c4, c5, c6, c7, c8, c9, c10, c11] : List ClassId).getD k 0, fun k => ([iS0, iS1, iS2, iS3, iS4, iS5, iS6, iS7, iS8, iS9, iS10, iS11] : List (Nat → Nat)).getD k (fun _ => 0)), ?_⟩
    intro k q hq
    match k, hq with
    | 0, hq => cases hq; exact hKn0
    | 1, hq => cases hq; exact hKn1
    | 2, hq => cases hq; exact hKn2
    | 3, hq => cases hq; exact hKn3
    | 4, hq => cases hq; exact hKn4
    | 5, hq => cases hq; exact hKn5
    | 6, hq => cases hq; exact hKn6
    | 7, hq => cases hq; exact hKn7
    | 8, hq => cases hq; exact hKn8
    | 9, hq => cases hq; exact hKn9
    | 10, hq => cases hq; exact hKn10
    | 11, hq => cases hq; exact hKn11
    | k + 12, hq => simp [vwCl] at hq
  obtain ⟨aI, kI, mI, f1I, f2I, f3I⟩ := Cond.arrayClass_spec (hts _ dh_w_aI)
  obtain ⟨aJ, kJ, mJ, f1J, f2J, f3J⟩ := Cond.arrayClass_spec (hts _ dh_w_aJ)
  obtain ⟨aB, kB, mB, f1B, f2B, f3B⟩ := Cond.arrayClass_spec (hts _ dh_w_aB)
  obtain ⟨aZ, kZ, mZ, f1Z, f2Z, f3Z⟩ := Cond.arrayClass_spec (hts _ dh_w_aZ)
  have hoL : (Cond.arrayOver (.object "DoubleHeap$Law")).before #[Value.ref b] s = true := hts0 _ (List.mem_of_getElem? (i := 191) (by decide +kernel))
  have hoT : (Cond.arrayOver (.object "DoubleHeap$Tale")).before #[Value.ref b] s = true := hts0 _ (List.mem_of_getElem? (i := 193) (by decide +kernel))
  have hoA : (Cond.arrayOver (.array .int)).before #[Value.ref b] s = true := hts0 _ (List.mem_of_getElem? (i := 333) (by decide +kernel))
  have hO : dh_AO s := ⟨va_AO.of hoL, va_AO.of hoT, hoA⟩
  obtain ⟨mL, aL, kL, g1L, g2L, g3L, g4L, g5L⟩ := Cond.arrayOver_spec hoL
  obtain ⟨mT, aT, kT, g1T, g2T, g3T, g4T, g5T⟩ := Cond.arrayOver_spec hoT
  obtain ⟨mA, aA, kA, g1A, g2A, g3A, g4A, g5A⟩ := arrayOverA_spec hoA
  obtain ⟨ta, hta⟩ : ∃ ta : Nat → ClassId, ta 1 = aI ∧ ta 2 = aJ ∧ ta 3 = aB ∧ ta 4 = aZ ∧ ta 5 = aL ∧ ta 6 = aT ∧ ta 7 = aA := ⟨fun k => ([0, aI, aJ, aB, aZ, aL, aT, aA] : List ClassId).getD k 0, rfl, rfl, rfl, rfl, rfl, rfl, rfl⟩
  obtain ⟨rfl, rfl, rfl, rfl, rfl, rfl, rfl⟩ := hta
  have hK : va_K D vwCl (dh_tys ta) s := by
    refine ⟨hKc, fun k q hq => ?_⟩
    match k, hq with
    | 0, hq => cases hq; exact ⟨fun N z => ⟨(fun k h => by cases h), kI, f2I, mI, f3I⟩, f1I⟩
    | 1, hq => cases hq; exact ⟨fun N z => ⟨(fun k h => by cases h), kJ, f2J, mJ, f3J⟩, f1J⟩
    | 2, hq => cases hq; exact ⟨fun N z => ⟨(fun k h => by cases h), kB, f2B, mB, f3B⟩, f1B⟩
    | 3, hq => cases hq; exact ⟨fun N z => ⟨(fun k h => by cases h), kZ, f2Z, mZ, f3Z⟩, f1Z⟩
    | 4, hq => cases hq; exact ⟨fun N z => ⟨(fun k h => by cases h), kL, g3L, mL, g4L⟩, kL, mL, g3L, g4L, g1L, g5L⟩
    | 5, hq => cases hq; exact ⟨fun N z => ⟨(fun k h => by cases h), kT, g3T, mT, g4T⟩, kT, mT, g3T, g4T, g1T, g5T⟩
    | 6, hq => cases hq; exact ⟨fun N z => ⟨(fun k h => by cases h), kA, g3A, mA, g4A⟩, g5A⟩
    | k + 7, hq => simp [dh_tys] at hq
  have hS : va_S (fun q : Nat => s.heap.size ≤ q) s.heap s.heap [] := va_S.rf
  have hP : va_P D vwCl [] s.heap := fun k q h => by simp at h
  have hD : va_D (fun q : Nat => s.heap.size ≤ q) [] := ⟨fun i j p q h => by simp at h, fun k q h => by simp at h⟩
  have hl := lv_entry ([.ref b]) (n := 4) (Nat.le_of_ble_eq_true rfl)
  rw [lg_entry_eq]
  generalize (lg_sl ([.ref b]) ++ List.replicate (4 - (lg_sl ([.ref b])).length) Slot.unset).toArray = ls at hl ⊢
  have hl : lv_has ls 4 [(0, .ref b)] := hl
  refine va_new (ci := 10) (fs := [.null, .null, .null, .null, .null, .null, .null, .null, .null, .null, .null, .int 0, .int 0, .int 0]) (C := RX10) (T := TX10) (N := 14) hx hb hts dh_u10 tyX10 tyX10_ok hown (hts (.classLink R_law 7 RX10) (dh_has_in (i := 167) (by decide +kernel))) (hts (.instantiable RX10 14) (dh_has_in (i := 168) (by decide +kernel))) (hts (.initialized RX10) (dh_has_in (i := 151) (by decide +kernel))) hK hP hD hS hA rfl (by decide +kernel) (by decide) (by decide) di_law_0 (fun qx H hP hD hS => ?_)
  refine lv_dup hx hb di_law_3 rfl ?_
  have hPc : va_P D vwCl [(qx, .inr (10, [.null, .null, .null, .null, .null, .null, .null, .null, .null, .null, .null, .int 0, .int 0, .int 0]))] H := dh_Pr (wr := []) hP
  have hDc : va_D (fun q : Nat => s.heap.size ≤ q) [(qx, .inr (10, [.null, .null, .null, .null, .null, .null, .null, .null, .null, .null, .null, .int 0, .int 0, .int 0]))] := dh_Dr (wr := []) hD
  have hFc := dh_Fr (wr := []) (wc := [(qx, .inr (10, [.null, .null, .null, .null, .null, .null, .null, .null, .null, .null, .null, .int 0, .int 0, .int 0]))]) hD hS hA
  refine va_callv (va_runI (As := []) (rest := [.ref qx]) ⟨hx, hb, hml, hown, hts⟩ (k_Heap l D ta qx H.size) ⟨callB_of 0 hts gwi_Heap rfl rfl rfl (hts (.initialized RX10) (dh_has_in (i := 151) (by decide +kernel))) (hts (.methodLink R_law 9 yi_Heap) (dh_has_in (i := 169) (by decide +kernel))) (by decide +kernel) (by decide), rfl, hts (.instanceMethod yi_Heap) (dh_has_in (i := 170) (by decide +kernel))⟩ ⟨dh_Pi_blind, fun U hU hW => ⟨rfl, by rw [hU], by rw [hU]; exact hPc, va_K.moved hW.alike hK, hDc.weaken (fun _ _ _ _ => trivial), hN.warm hW, hO.moved hW.alike⟩⟩ rfl rfl hl.1 rfl (lv_room (Nat.le_of_ble_eq_true rfl)) di_law_4 (by decide)) hS (fun q _ h => hFc q h) hFc (fun u t H1 locs ht hvm hw hB hz1 hk1 hS => ?_)
  obtain ⟨hP1, hD1⟩ := hB
  rw [ht] at hP1
  obtain ⟨hP, hD⟩ := dh_joinA (wr := []) hP hD hk1 hFc hP1 hD1
  clear hPc hDc hFc hP1 hD1 hk1 hz1 ht hvm
  generalize H1 = H at hP hS ⊢
  obtain ⟨u_qx, eu_qx⟩ : ∃ z, z = u := ⟨_, rfl⟩
  rw [← eu_qx] at hP hD hw
  clear eu_qx
  have hw_qx := hw
  have hP : va_P D vwCl (dh_sg ta sg_Heap dh_r1 (qx :: u_qx)) H := hP
  have hD : va_D (fun q : Nat => s.heap.size ≤ q) (dh_sg ta sg_Heap dh_r1 (qx :: u_qx)) := hD
  refine lv_astore_n (lv' := [(1, .ref qx), (0, .ref b)]) hx hb di_law_7 rfl hl (by decide) rfl (fun ls hl => ?_)
  refine va_new (ci := 11) (fs := [.null, .null, .null, .null, .null, .null, .null, .int 0, .int 0, .null, .int 0, .int 0, .int 0, .int 0, .int 0, .int 0, .int 0, .int 0, .int 0, .null, .null, .null, .null, .null, .null, .null, .null, .null, .null, .null, .null, .null, .null, .null, .null, .int 0, .null, .null, .null, .null, .null, .null, .null, .int 0, .int 0, .int 0, .int 0, .int 0, .int 0, .int 0, .null, .int 0, .int 0, .int 0, .int 0, .int 0, .null, .int 0]) (C := RX11) (T := TX11) (N := 58) hx hb hts dh_u11 tyX11 tyX11_ok hown (hts (.classLink R_law 10 RX11) (dh_has_in (i := 1104) (by decide +kernel))) (hts (.instantiable RX11 58) (dh_has_in (i := 1105) (by decide +kernel))) (hts (.initialized RX11) (dh_has_in (i := 162) (by decide +kernel))) hK hP hD hS hA rfl (by decide +kernel) (by decide) (by decide) di_law_8 (fun qm H hP hD hS => ?_)
  refine lv_dup hx hb di_law_11 rfl ?_
  have hPc : va_P D vwCl [(qm, .inr (11, [.null, .null, .null, .null, .null, .null, .null, .int 0, .int 0, .null, .int 0, .int 0, .int 0, .int 0, .int 0, .int 0, .int 0, .int 0, .int 0, .null, .null, .null, .null, .null, .null, .null, .null, .null, .null, .null, .null, .null, .null, .null, .null, .int 0, .null, .null, .null, .null, .null, .null, .null, .int 0, .int 0, .int 0, .int 0, .int 0, .int 0, .int 0, .null, .int 0, .int 0, .int 0, .int 0, .int 0, .null, .int 0]))] H := dh_Pr (wr := dh_sg ta sg_Heap dh_r1 (qx :: u_qx)) hP
  have hDc : va_D (fun q : Nat => s.heap.size ≤ q) [(qm, .inr (11, [.null, .null, .null, .null, .null, .null, .null, .int 0, .int 0, .null, .int 0, .int 0, .int 0, .int 0, .int 0, .int 0, .int 0, .int 0, .int 0, .null, .null, .null, .null, .null, .null, .null, .null, .null, .null, .null, .null, .null, .null, .null, .null, .int 0, .null, .null, .null, .null, .null, .null, .null, .int 0, .int 0, .int 0, .int 0, .int 0, .int 0, .int 0, .null, .int 0, .int 0, .int 0, .int 0, .int 0, .null, .int 0]))] := dh_Dr (wr := dh_sg ta sg_Heap dh_r1 (qx :: u_qx)) hD
  have hFc := dh_Fr (wr := dh_sg ta sg_Heap dh_r1 (qx :: u_qx)) (wc := [(qm, .inr (11, [.null, .null, .null, .null, .null, .null, .null, .int 0, .int 0, .null, .int 0, .int 0, .int 0, .int 0, .int 0, .int 0, .int 0, .int 0, .int 0, .null, .null, .null, .null, .null, .null, .null, .null, .null, .null, .null, .null, .null, .null, .null, .null, .int 0, .null, .null, .null, .null, .null, .null, .null, .int 0, .int 0, .int 0, .int 0, .int 0, .int 0, .int 0, .null, .int 0, .int 0, .int 0, .int 0, .int 0, .null, .int 0]))]) hD hS hA
  refine va_callv (va_runI (As := []) (rest := [.ref qm]) ⟨hx, hb, hml, hown, hts⟩ (k_Model l D ta qm H.size) ⟨callB_of 0 hts gwi_Model rfl rfl rfl (hts (.initialized RX11) (dh_has_in (i := 162) (by decide +kernel))) (hts (.methodLink R_law 12 yi_Model) (dh_has_in (i := 1106) (by decide +kernel))) (by decide +kernel) (by decide), rfl, hts (.instanceMethod yi_Model) (dh_has_in (i := 1107) (by decide +kernel))⟩ ⟨dh_Pi_blind, fun U hU hW => ⟨rfl, by rw [hU], by rw [hU]; exact hPc, va_K.moved hW.alike hK, hDc.weaken (fun _ _ _ _ => trivial), hN.warm hW, hO.moved hW.alike⟩⟩ rfl rfl hl.1 rfl (lv_room (Nat.le_of_ble_eq_true rfl)) di_law_12 (by decide)) hS (fun q _ h => hFc q h) hFc (fun u t H1 locs ht hvm hw hB hz1 hk1 hS => ?_)
  obtain ⟨hP1, hD1⟩ := hB
  rw [ht] at hP1
  obtain ⟨hP, hD⟩ := dh_joinA (wr := dh_sg ta sg_Heap dh_r1 (qx :: u_qx)) hP hD hk1 hFc hP1 hD1
  clear hPc hDc hFc hP1 hD1 hk1 hz1 ht hvm
  generalize H1 = H at hP hS ⊢
  obtain ⟨u_qm, eu_qm⟩ : ∃ z, z = u := ⟨_, rfl⟩
  rw [← eu_qm] at hP hD hw
  clear eu_qm
  have hw_qm := hw
  refine lv_astore_n (lv' := [(2, .ref qm), (1, .ref qx), (0, .ref b)]) hx hb di_law_15 rfl hl (by decide) rfl (fun ls hl => ?_)
  have key : dh_ws (fun k => if k = 1000 then b else if k < 147 then (qx :: u_qx).getD k 0 else (qm :: u_qm).getD (k - 147) 0) ta (dh_r0 xs) (fun _ _ => 0) = dh_sg ta sg_Heap dh_r1 (qx :: u_qx) ++ dh_sg ta sg_Model dh_r2 (qm :: u_qm) := by
    refine dh_ws_split (fun j hj => ?_) (fun j hj => ?_) (fun p hp => ?_) (fun p hp => ?_)
    · show (if j = 1000 then b else if j < 147 then _ else _) = _
      rw [if_neg (by omega), if_pos hj]
    · show (if 147 + j = 1000 then b else if 147 + j < 147 then _ else _) = _
      rw [if_neg (by omega), if_neg (by omega), show 147 + j - 147 = j by omega]
    · show (if p = 1000 then xs else if p < 147 then dh_r1 p else dh_r2 (p - 147)) = _
      rw [if_neg (by omega), if_pos hp]
    · show (if 147 + p = 1000 then xs else if 147 + p < 147 then dh_r1 (147 + p) else dh_r2 (147 + p - 147)) = _
      rw [if_neg (by omega), if_neg (by omega), show 147 + p - 147 = p by omega]
  refine dh_law_run l hL C0 (adr := fun k => if k = 1000 then b else if k < 147 then (qx :: u_qx).getD k 0 else (qm :: u_qm).getD (k - 147) 0) (ta := ta) (D := D) (ri := dh_r0 xs) (rl := fun _ _ => 0) (by decide) hK (by rw [key]; exact hP) (by rw [key]; exact hD) hS rfl rfl (lv_sub hl [2, 1, 0] rfl) (hpure L xs hL)
