/-! pure: calls that change a number -/
theorem most_n {q : Nat} (h : q < 24) : r_P_mostOf (nI q) = some (nI (mostN q)) := by
  unfold r_P_mostOf mostN
  by_cases h8 : q < 8
  · rw [if_neg (show ¬ (8 : Int32) ≤ nI q from nI_ge h8 (by decide)), if_pos h8]; rfl
  · rw [if_pos (show (8 : Int32) ≤ nI q from nI_le (a := 8) (by omega) (by omega)), if_neg h8]
    by_cases h16 : q < 16
    · rw [if_neg (show ¬ (16 : Int32) ≤ nI q from nI_ge h16 (by decide)), if_pos h16]; rfl
    · rw [if_pos (show (16 : Int32) ≤ nI q from nI_le (a := 16) (by omega) (by omega)), if_neg h16]; rfl
theorem mostN_le (q : Nat) : mostN q ≤ 65535 := by
  unfold mostN
  split
  · decide
  · split <;> decide
theorem pOK_iff {q : Nat} {v : Int32} : pOK q v ↔ -1 ≤ v.toInt ∧ v.toInt ≤ mostN q := by
  have hm := mostN_le q
  constructor
  · rintro (h | ⟨k, h1, h2⟩)
    · rw [h, q_m1]; omega
    · rw [h2, q_ti (by omega)]; omega
  · rintro ⟨h1, h2⟩
    by_cases h : v.toInt = -1
    · exact Or.inl (by rw [q_eq, h]; rfl)
    · obtain ⟨j, hj, e⟩ := q_of (x := v) (n := mostN q + 1) (q_in.mpr ⟨by omega, by omega⟩) (by omega)
      exact Or.inr ⟨j, by omega, e⟩
/-- a value into a row of properties, or not -/
theorem put_t {j r q n : Nat} {v : Int32} {f : Nat → Int32} (hr : r ≤ 24) (hj : j < r) (hq : q < 24) (hn : 24 * r ≤ n) (hn2 : n ≤ 576) (hv : pOK q v) : r_P_put (nI j) (nI q) v n f (nI r) = some (1, upd f (24 * j + q) v) := by
  have hm := mostN_le q
  rw [pOK_iff] at hv
  unfold r_P_put
  rw [has_t (by omega) (vp_in_nI hj (by omega)), most_n hq]
  simp only [Option.bind_some]
  rw [if_neg q_10, if_neg (nI_pos (by omega)), if_pos (show nI q < 24 from nI_lt hq (by decide)), if_neg (by rw [q_lt, q_m1]; omega), if_pos (by rw [q_le, q_ti (by omega)]; omega), q_ix24, gi_n (by omega) (by omega), q_cl (by omega)]
theorem put_f {x y v : Int32} {r n : Nat} {f : Nat → Int32} (hr : r ≤ 24) (h : ¬ (vp_in x r ∧ vp_in y 24 ∧ ∀ q : Nat, y = nI q → q < 24 → pOK q v)) : r_P_put x y v n f (nI r) = some (0, f) := by
  unfold r_P_put
  by_cases hx : vp_in x r
  · rw [has_t (by omega) hx]
    simp only [Option.bind_some]
    rw [if_neg q_10]
    by_cases hy : vp_in y 24
    · obtain ⟨q, hq, rfl⟩ := q_of hy (by decide)
      have hm := mostN_le q
      have hp : ¬ pOK q v := fun hp => h ⟨hx, hy, fun q2 e h2 => by
        have := (nI_eq (by omega) (by omega)).mp e
        subst this
        exact hp⟩
      rw [pOK_iff] at hp
      rw [most_n hq]
      simp only [Option.bind_some]
      rw [if_neg (nI_pos (by omega)), if_pos (show nI q < 24 from nI_lt hq (by decide))]
      by_cases h1 : v < (-1)
      · rw [if_pos h1]
      · rw [if_neg h1, if_neg (by rw [q_lt, q_m1] at h1; rw [q_le, q_ti (by omega)]; omega)]
    · rw [q_in] at hy
      by_cases h0 : y < 0
      · rw [if_pos h0]
      · rw [if_neg h0, if_neg (by rw [q_lt, q_0] at h0; rw [q_lt]; show ¬ y.toInt < 24; omega)]
  · rw [has_f (by omega) hx]
    rfl
theorem get_t {j r q n : Nat} {f : Nat → Int32} (hr : r ≤ 24) (hj : j < r) (hq : q < 24) (hn : 24 * r ≤ n) (hn2 : n ≤ 576) : r_P_get (nI j) (nI q) n f (nI r) = some (f (24 * j + q)) := by
  unfold r_P_get
  rw [has_t (by omega) (vp_in_nI hj (by omega))]
  simp only [Option.bind_some]
  rw [if_neg q_10, if_neg (nI_pos (by omega)), if_pos (show nI q < 24 from nI_lt hq (by decide)), q_ix24, gi_n (by omega) (by omega), q_cl (by omega)]
theorem get_f {x y : Int32} {r n : Nat} {f : Nat → Int32} (hr : r ≤ 24) (h : ¬ (vp_in x r ∧ vp_in y 24)) : r_P_get x y n f (nI r) = some (-2) := by
  unfold r_P_get
  by_cases hx : vp_in x r
  · rw [has_t (by omega) hx]
    simp only [Option.bind_some]
    rw [if_neg q_10]
    have hy : ¬ vp_in y 24 := fun hy => h ⟨hx, hy⟩
    rw [q_in] at hy
    by_cases h0 : y < 0
    · rw [if_pos h0]
    · rw [if_neg h0, if_neg (by rw [q_lt, q_0] at h0; rw [q_lt]; show ¬ y.toInt < 24; omega)]
  · rw [has_f (by omega) hx]
    rfl
theorem z23_t {q : Nat} (h : q < 24) : r_Z_in (nI q) 0 23 = some 1 := zin_t (by rw [q_ti (by omega), q_0]; omega) (by rw [q_ti (by omega)]; show (q : Int) ≤ 23; omega)
theorem z23_f {y : Int32} (h : ¬ vp_in y 24) : r_Z_in y 0 23 = some 0 := by
  rw [q_in] at h
  exact zin_f (by rw [q_0]; show y.toInt < 0 ∨ 23 < y.toInt; omega)
/-- the reference's own row, if there is one -/
theorem zrow_isRow0 (x : Int32) {d ns : Nat} {styles sets : Nat → Int32} (hd : d ≤ 1) (hns : ns ≤ 16) (h1 : styles d = nI ns) : r_Z_isRow 0 x (nI d) styles sets = r_P_has x (nI ns) := by
  have c : (nI d).toNatClampNeg = d := q_cl (by omega)
  unfold r_Z_isRow
  rw [if_pos rfl, gi_n (by omega) (by decide), c, h1, zin_eq (by omega)]
  by_cases h : vp_in x ns
  · rw [has_t (by omega) h]; exact gz_1
  · rw [has_f (by omega) h]; exact gz_0
theorem zisSet (x : Int32) {d nS : Nat} {sets : Nat → Int32} (hd : d ≤ 1) (hnS : nS ≤ 24) (h2 : sets d = nI nS) : r_Z_isSet x (nI d) sets = r_P_has x (nI nS) := by
  have c : (nI d).toNatClampNeg = d := q_cl (by omega)
  unfold r_Z_isSet
  rw [gi_n (by omega) (by decide), c, h2, zin_eq (by omega)]
  by_cases h : vp_in x nS
  · rw [has_t (by omega) h]; exact gz_1
  · rw [has_f (by omega) h]; exact gz_0
theorem zisMark (x : Int32) {d nm : Nat} {marks : Nat → Int32} (hd : d ≤ 1) (hnm : nm ≤ 24) (h3 : marks d = nI nm) : r_Z_isMark x (nI d) marks = r_P_has x (nI nm) := by
  have c : (nI d).toNatClampNeg = d := q_cl (by omega)
  unfold r_Z_isMark
  rw [gi_n (by omega) (by decide), c, h3, zin_eq (by omega)]
  by_cases h : vp_in x nm
  · rw [has_t (by omega) h]; exact gz_1
  · rw [has_f (by omega) h]; exact gz_0
theorem zrow_isRow1 (x : Int32) {d nS : Nat} {styles sets : Nat → Int32} (hd : d ≤ 1) (hnS : nS ≤ 24) (h2 : sets d = nI nS) : r_Z_isRow 1 x (nI d) styles sets = r_P_has x (nI nS) := by
  unfold r_Z_isRow
  rw [if_neg q_10, if_pos rfl, zisSet x hd hnS h2]
  by_cases h : vp_in x nS
  · rw [has_t (by omega) h]; rfl
  · rw [has_f (by omega) h]; rfl
theorem zrow_isRow2 {of : Int32} (x : Int32) {d : Nat} {styles sets : Nat → Int32} (h0 : ¬ of = 0) (h1 : ¬ of = 1) : r_Z_isRow of x (nI d) styles sets = some 0 := by
  unfold r_Z_isRow
  rw [if_neg h0, if_neg h1]
theorem m_value (of x y : Int32) {d ns nS : Nat} {sv tv bs styles sets base own : Nat → Int32} (hd : d ≤ 1) (hns : ns ≤ 16) (hnS : nS ≤ 24) (h1 : styles d = nI ns) (h2 : sets d = nI nS) (hS : RelS d ns sv bs base own) (hT : RelT d nS tv own) :
    ∃ r, r_F_value of x y 384 sv (nI ns) 576 tv (nI nS) = some r ∧ r_Z_value of x y (nI d) styles sets own = some r := by
  unfold r_F_value r_Z_value
  by_cases a0 : of = 0
  · subst a0
    rw [if_pos rfl, zrow_isRow0 x hd hns h1]
    by_cases h : vp_in x ns ∧ vp_in y 24
    · obtain ⟨j, hj, rfl⟩ := q_of h.1 (by omega)
      obtain ⟨q, hq, rfl⟩ := q_of h.2 (by decide)
      refine ⟨sv (24 * j + q), by rw [get_t (by omega) hj hq (by omega) (by omega)]; rfl, ?_⟩
      rw [has_t (by omega) h.1, z23_t hq, q_zrow0]
      simp only [Option.bind_some]
      rw [if_neg q_10, if_neg q_10, nI_add, gi_n (by omega) (by decide), q_cl (by omega), Nat.add_assoc, ((hS j hj).2.2 q hq).1]
      congr 1
      rw [Int32.add_sub_cancel]
    · refine ⟨-2, by rw [get_f (by omega) h]; rfl, ?_⟩
      by_cases hx : vp_in x ns
      · rw [has_t (by omega) hx, z23_f (fun hy => h ⟨hx, hy⟩)]; rfl
      · rw [has_f (by omega) hx]; rfl
  · rw [if_neg a0]
    by_cases a1 : of = 1
    · subst a1
      rw [if_pos rfl, zrow_isRow1 x hd hnS h2]
      by_cases h : vp_in x nS ∧ vp_in y 24
      · obtain ⟨j, hj, rfl⟩ := q_of h.1 (by omega)
        obtain ⟨q, hq, rfl⟩ := q_of h.2 (by decide)
        refine ⟨tv (24 * j + q), by rw [get_t (by omega) hj hq (by omega) (by omega)]; rfl, ?_⟩
        rw [has_t (by omega) h.1, z23_t hq, q_zrow1]
        simp only [Option.bind_some]
        rw [if_neg q_10, if_neg q_10, nI_add, gi_n (by omega) (by decide), q_cl (by omega), show 960 * d + (384 + 24 * j) + q = 960 * d + (384 + (24 * j + q)) by omega, (hT j hj q hq).1]
        congr 1
        rw [Int32.add_sub_cancel]
      · refine ⟨-2, by rw [get_f (by omega) h]; rfl, ?_⟩
        by_cases hx : vp_in x nS
        · rw [has_t (by omega) hx, z23_f (fun hy => h ⟨hx, hy⟩)]; rfl
        · rw [has_f (by omega) hx]; rfl
    · rw [if_neg a1, zrow_isRow2 x a0 a1]
      exact ⟨-2, rfl, rfl⟩
