/-! own words of the functions: guards, and the table in the class's static -/
def gi {α : Type} (i : Int32) (n : Nat) (k : Option α) : Option α := if i < 0 ∨ n ≤ i.toNatClampNeg then none else k
theorem gi_some {α : Type} {i : Int32} {n : Nat} {k : Option α} {r : α} (h : gi i n k = some r) : vp_in i n ∧ k = some r := by
  unfold gi at h
  by_cases hc : i < 0 ∨ n ≤ i.toNatClampNeg
  · rw [if_pos hc] at h; cases h
  · rw [if_neg hc] at h; exact ⟨hc, h⟩
theorem gi_in {α : Type} {i : Int32} {n : Nat} {k : Option α} (h : vp_in i n) : gi i n k = k := if_neg h
def gz {α : Type} (v : Int32) (k : Option α) : Option α := if v = 0 ∨ v = 1 then k else none
theorem gz_some {α : Type} {v : Int32} {k : Option α} {r : α} (h : gz v k = some r) : (v = 0 ∨ v = 1) ∧ k = some r := by
  unfold gz at h
  by_cases hc : v = 0 ∨ v = 1
  · rw [if_pos hc] at h; exact ⟨hc, h⟩
  · rw [if_neg hc] at h; cases h
/-- the table in the class's static -/
def wk_hd (j : Nat) : Int32 := if j = 0 then 77 else if j = 1 then 83 else 1
