/-- the tables' words that hold wherever a callee begins -/
def dh_B : List Cond := lw_tbl.filter goodWord
theorem dh_B_tbl {w : Cond} (h : w ∈ dh_B) : w ∈ lw_tbl := (List.mem_filter.mp h).1
theorem dh_goodIn : GoodIn dh_B dh_B := fun w hw => ⟨hw, good_of_word (List.mem_filter.mp hw).2⟩
theorem dh_B_at {w : Cond} (i : Nat) (h : lw_tbl[i]? = some w) (hg : goodWord w = true) : w ∈ dh_B := List.mem_filter.mpr ⟨List.mem_of_getElem? h, hg⟩
