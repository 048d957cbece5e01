/-! ===== the law from pc 16 on, behind the two constructors ===== -/
/-- the script is place 1000, an array that is only read -/
def dh_shL (L : Nat) : Nat → Option (Nat × Nat × Nat × Nat) := fun q => if q = 1000 then some (8, L, 0, 0) else dh_sh q
theorem dh_sh1000 : dh_sh 1000 = none := by decide +kernel
theorem dh_lbp_len : dh_lbp.length = 40 := by decide +kernel
theorem dh_ckl_at {b t : Nat} (h : dh_lbp[b]? = some t) : dh_ckB code 4 3 12 dh_lbp t (dh_bl 256 b) = true := by
  have hb : b < 40 := by
    have := (List.getElem?_eq_some_iff.mp h).1
    rw [dh_lbp_len] at this
    exact this
  have := dh_ckl_all b hb
  unfold dh_ckl at this
  rw [List.getD_eq_getElem?_getD, h] at this
  exact this
theorem dh_NW_of {A : Array Value} {s : State} (h : ∀ w ∈ lw_tbl, w.before A s = true) : dh_NW s := by
  intro w hw
  have hn := (List.mem_filter.mp hw).2
  have h1 := h w (List.mem_filter.mp hw).1
  match w, hn, h1 with
  | .fieldLinkNest .., _, h => exact va_Nw.of rfl h
  | .methodLinkNest .., _, h => exact va_Nw.of rfl h
set_option maxHeartbeats 4000000 in
theorem dh_law_run {p : Program} {e : Env} {s : State} {m : MethodId} {below : List Frame} {meth : Method} {c : Code} (l : Launch) {b L : Nat} {xs : Nat → Int32} (hL : L ≤ 3584) (C0 : lw_At p s m meth c b L xs)
    {adr : Nat → Nat} {ta : Nat → ClassId} {D : va_G} {ri : Nat → Nat → Int32} {rl : Nat → Nat → Int64} {H : Heap} {locs : List Loc} {rls : Array Slot} {kc ks : Nat} (hkc : kc ≤ 600000 ∧ ks ≤ 7302250)
    (hK : va_K D vwCl (dh_tys ta) s) (hP : va_P D vwCl (dh_ws adr ta ri rl) H) (hD : va_D (fun q : Nat => s.heap.size ≤ q) (dh_ws adr ta ri rl)) (hS : va_S (fun q : Nat => s.heap.size ≤ q) s.heap H locs) (ha : adr 1000 = b) (hri : ri 1000 = xs)
    (hl : lv_has rls 4 [(0, .ref b), (1, .ref (adr 0)), (2, .ref (adr 147))])
    (hw : dh_wp (dh_shL L) (dh_wpM 200) (dh_bl 256) (fun v _ => v = some (.inl 1)) 0 [some (.inr (.inr (some 1000))), some (.inr (.inr (some 0))), some (.inr (.inr (some 147))), none] [] (dh_ab ri rl)) :
    W p l e room_1 s m #[Value.ref b] below meth c H locs kc ks (lw_Z below #[Value.ref b] s) (F0 m 16 rls []) := by
  obtain ⟨hx, hb, hr, hml, hown, hts, hX, hbl, hlocks, hgv⟩ := C0
  have F : dh_Fx p s m #[Value.ref b] c code 4 12 D ta (fun q : Nat => s.heap.size ≤ q) adr s.heap ri (dh_shL L) := by
    refine ⟨hx, hb, hml, hown, fun w hw => hts w (dh_B_tbl hw), dh_NW_of hts, hK, fun q x h1 h2 => ?_, fun q n b' c' h1 => ?_⟩
    · unfold dh_shL at h1
      split at h1
      · cases h1; exact absurd rfl h2
      · exact h1
    · unfold dh_shL at h1
      split at h1
      · rename_i hq
        subst hq
        cases h1
        refine ⟨by rw [ha, hri]; exact hX, by rw [ha]; exact hbl, by rw [ha]; exact Nat.not_le.mpr hbl, dh_sh1000, by omega⟩
      · exact (dh_sh_8 h1).elim
  have hRt : dh_Rt p l e room_1 s m #[Value.ref b] below meth c (lw_Z below #[Value.ref b] s) adr ta D (fun q : Nat => s.heap.size ≤ q) s.heap ri kc ks code 3 (fun v _ => v = some (.inl 1)) := by
    intro pc rls H locs h hR
    obtain ⟨ri', rl', rfl, hP', hD', hS', hout'⟩ := hR
    refine ⟨fun n hn hd hq => ?_, fun n hn => absurd hn (by decide), fun x v hn => absurd hn (by decide), fun hn => absurd hn (by decide)⟩
    have h1 : n = 1 := by
      have h2 : n.toInt = 1 := by
        simp only [Option.some.injEq, Sum.inl.injEq] at hq
        exact hq
      exact dh_n_1.mp h2
    subst h1
    refine va_forget (fun q hq => hS'.2.2 q hq) ?_
    refine W.widen (k := 600000) (n := 7302250) hkc.1 hkc.2 ?_
    exact lw_ret hx hb hr hlocks hd
  have hrl : dh_rl adr rls 4 [some (.inr (.inr (some 1000))), some (.inr (.inr (some 0))), some (.inr (.inr (some 147))), none] := by
    refine ⟨hl.1, hl.2.1, fun k v hk => ?_⟩
    match k, hk with
    | 0, hk => cases hk; exact ⟨.ref b, lv_at hl 0 rfl, by show Value.ref b = Value.ref (adr 1000); rw [ha]⟩
    | 1, hk => cases hk; exact ⟨.ref (adr 0), lv_at hl 1 rfl, rfl⟩
    | 2, hk => cases hk; exact ⟨.ref (adr 147), lv_at hl 2 rfl, rfl⟩
    | 3, hk => cases hk
    | k + 4, hk => cases hk
  have key := hw (fun b' ls st h => ∀ t, dh_lbp[b']? = some t → dh_OK p l e room_1 s m #[Value.ref b] below meth c (lw_Z below #[Value.ref b] s) adr ta D (fun q : Nat => s.heap.size ≤ q) s.heap ri 4 kc ks t ls st h)
    (fun b' ls st h hb' t ht => dh_blk_sim F (fun q hq => hq) (d := 200) (by show 200 + 1 ≤ 2048 ∧ 60 * 200 + 60 ≤ 84000; decide) hkc (dh_wpM_mono 200) (dh_simM l 200) hRt (fun b ls st h q t ht => q t ht) _ t ls st h (dh_ckl_at ht) hb')
  exact key 16 (by decide +kernel) rls [] H locs hrl trivial ⟨ri, rl, rfl, hP, hD, hS, fun _ _ => rfl⟩
