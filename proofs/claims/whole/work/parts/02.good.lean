/-- the tables' words that hold wherever a callee begins -/
def dh_B : List Cond := lw_tbl.filter goodWord
theorem dh_B_tbl {w : Cond} (h : w ∈ dh_B) : w ∈ lw_tbl := (List.mem_filter.mp h).1
theorem dh_goodIn : GoodIn dh_B dh_B := fun w hw => ⟨hw, good_of_word (List.mem_filter.mp hw).2⟩
theorem dh_B_at {w : Cond} (i : Nat) (h : lw_tbl[i]? = some w) (hg : goodWord w = true) : w ∈ dh_B := List.mem_filter.mpr ⟨List.mem_of_getElem? h, hg⟩
/-- the words on members of nest mates: they go from state to state by va_Nw -/
def dh_nest : Cond → Bool
  | .fieldLinkNest .. => true
  | .methodLinkNest .. => true
  | _ => false
def dh_N : List Cond := lw_tbl.filter dh_nest
def dh_NW (U : State) : Prop := ∀ w ∈ dh_N, va_Nw w U
theorem dh_NW.warm {s U : State} (hW : s.WarmedH U.vm) (h : dh_NW s) : dh_NW U := by
  intro w hw
  have hn := (List.mem_filter.mp hw).2
  match w, hn, h w hw with
  | .fieldLinkNest .., _, h => exact va_Nw.warmF hW h
  | .methodLinkNest .., _, h => exact va_Nw.warmM hW h
theorem dh_NW.same {u U : State} (hv : u.vm = U.vm) (h : dh_NW u) : dh_NW U := by
  intro w hw
  have hn := (List.mem_filter.mp hw).2
  match w, hn, h w hw with
  | .fieldLinkNest .., _, h => exact va_Nw.same rfl hv h
  | .methodLinkNest .., _, h => exact va_Nw.same rfl hv h
