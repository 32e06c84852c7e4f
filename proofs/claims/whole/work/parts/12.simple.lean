/-! pure: calls that only look -/
theorem m_count (x : Int32) {d ns nS nm nr nc n : Nat} {styles sets marks runs chars : Nat → Int32} (hd : d ≤ 1) (h1 : styles d = nI ns) (h2 : sets d = nI nS) (h3 : marks d = nI nm) (h4 : runs d = nI nr) (h5 : chars d = nI nc) :
    ∃ r, r_F_count x (nI ns) (nI nS) (nI nm) (nI nr) (nI nc) (nI n) = some r ∧ r_Z_count x (nI n) (nI d) styles sets marks runs chars = some r := by
  have c : (nI d).toNatClampNeg = d := q_cl (by omega)
  unfold r_F_count r_Z_count
  simp only [gi_n (show d < 2 by omega) (show 2 < 2147483648 by decide), c, h1, h2, h3, h4, h5]
  by_cases a0 : x = 0
  · exact ⟨nI ns, by rw [if_pos a0]; rfl, by rw [if_pos a0]⟩
  by_cases a1 : x = 1
  · exact ⟨nI nS, by rw [if_neg a0, if_pos a1]; rfl, by rw [if_neg a0, if_pos a1]⟩
  by_cases a2 : x = 2
  · exact ⟨nI nm, by rw [if_neg a0, if_neg a1, if_pos a2]; rfl, by rw [if_neg a0, if_neg a1, if_pos a2]⟩
  by_cases a3 : x = 3
  · exact ⟨nI nr, by rw [if_neg a0, if_neg a1, if_neg a2, if_pos a3]; rfl, by rw [if_neg a0, if_neg a1, if_neg a2, if_pos a3]⟩
  by_cases a4 : x = 4
  · exact ⟨nI nc, by rw [if_neg a0, if_neg a1, if_neg a2, if_neg a3, if_pos a4]; rfl, by rw [if_neg a0, if_neg a1, if_neg a2, if_neg a3, if_pos a4]⟩
  by_cases a5 : x = 5
  · exact ⟨nI n, by rw [if_neg a0, if_neg a1, if_neg a2, if_neg a3, if_neg a4, if_pos a5]; rfl, by rw [if_neg a0, if_neg a1, if_neg a2, if_neg a3, if_neg a4, if_pos a5]⟩
  exact ⟨-1, by rw [if_neg a0, if_neg a1, if_neg a2, if_neg a3, if_neg a4, if_neg a5], by rw [if_neg a0, if_neg a1, if_neg a2, if_neg a3, if_neg a4, if_neg a5]⟩
theorem m_base (x : Int32) {d ns : Nat} {sv bs styles base own : Nat → Int32} (hd : d ≤ 1) (hns : ns ≤ 16) (h1 : styles d = nI ns) (hS : RelS d ns sv bs base own) :
    ∃ r, r_F_base x (nI ns) bs = some r ∧ r_Z_base x (nI d) styles base = some r := by
  have c : (nI d).toNatClampNeg = d := q_cl (by omega)
  unfold r_F_base r_D_baseOf r_Z_base
  simp only [gi_n (show d < 2 by omega) (show 2 < 2147483648 by decide), c, h1, zin_eq (show ns < 1073741824 by omega)]
  by_cases h : vp_in x ns
  · rw [has_t (by omega) h]
    obtain ⟨j, hj, rfl⟩ := q_of h (by omega)
    refine ⟨bs j, ?_, ?_⟩
    · simp only [Option.bind_some]
      rw [if_neg q_10, if_neg (show ¬ (16 : Int32) ≤ nI j from nI_ge (show j < 16 by omega) (by decide)), gi_n (by omega) (by decide), q_cl (by omega)]
      rfl
    · simp only [Option.bind_some]
      rw [if_neg q_10, show (16 : Int32) = nI 16 from rfl, q_iz, gi_n (by omega) (by decide), q_cl (by omega), (hS j hj).1]
  · rw [has_f (by omega) h]
    exact ⟨-2, rfl, rfl⟩
theorem m_at (x : Int32) {d nc : Nat} {uc chars text : Nat → Int32} (hd : d ≤ 1) (hnc : nc ≤ 512) (h1 : chars d = nI nc) (h2 : ∀ j, j < nc → uc j = text (512 * d + j)) :
    ∃ r, r_F_at x uc (nI nc) = some r ∧ r_Z_at x (nI d) chars text = some r := by
  have c : (nI d).toNatClampNeg = d := q_cl (by omega)
  unfold r_F_at r_U_character r_Z_at
  simp only [gi_n (show d < 2 by omega) (show 2 < 2147483648 by decide), c, h1, zin_eq (show nc < 1073741824 by omega)]
  by_cases h : vp_in x nc
  · rw [has_t (by omega) h]
    obtain ⟨j, hj, rfl⟩ := q_of h (by omega)
    refine ⟨uc j, ?_, ?_⟩
    · rw [if_neg (nI_pos (by omega)), if_neg (nI_ge hj (by omega)), gi_n (by omega) (by decide), q_cl (by omega)]
      rfl
    · simp only [Option.bind_some]
      rw [if_neg q_10, show (512 : Int32) = nI 512 from rfl, q_iz, gi_n (by omega) (by decide), q_cl (by omega), h2 j hj]
  · rw [has_f (by omega) h]
    rw [q_in] at h
    refine ⟨-1, ?_, rfl⟩
    by_cases h0 : x < 0
    · rw [if_pos h0]; rfl
    · rw [if_neg h0, if_pos (by rw [q_lt, q_0] at h0; rw [q_le, q_ti (by omega)]; omega)]; rfl
theorem m_octet (x : Int32) {n : Nat} {oc fl : Nat → Int32} (hn : n ≤ 6000) (h1 : RelF n oc fl) :
    ∃ r, r_F_octet x oc (nI n) = some r ∧ r_Z_octet x (nI n) fl = some r := by
  unfold r_F_octet r_O_get r_Z_octet
  simp only [zin_eq (show n < 1073741824 by omega)]
  by_cases h : vp_in x n
  · rw [has_t (by omega) h]
    obtain ⟨j, hj, rfl⟩ := q_of h (by omega)
    refine ⟨oc j, ?_, ?_⟩
    · rw [if_neg (nI_pos (by omega)), if_neg (nI_ge hj (by omega)), gi_n (by omega) (by decide), q_cl (by omega)]
      rfl
    · simp only [Option.bind_some]
      rw [if_neg q_10, gi_n (by omega) (by decide), q_cl (by omega), h1 j hj]
  · rw [has_f (by omega) h]
    rw [q_in] at h
    refine ⟨-1, ?_, rfl⟩
    by_cases h0 : x < 0
    · rw [if_pos h0]; rfl
    · rw [if_neg h0, if_pos (by rw [q_lt, q_0] at h0; rw [q_le, q_ti (by omega)]; omega)]; rfl
theorem m_changes (x y : Int32) {d nm nS : Nat} {mp marks ins era old : Nat → Int32} (hd : d ≤ 1) (hnm : nm ≤ 24) (h1 : marks d = nI nm) (hM : RelM d nm nS mp ins era old) :
    ∃ r, r_F_changes x y mp (nI nm) = some r ∧ r_Z_changes x y (nI d) marks ins era old = some r := by
  have c : (nI d).toNatClampNeg = d := q_cl (by omega)
  unfold r_F_changes r_M_part r_Z_changes r_Z_isMark
  simp only [gi_n (show d < 2 by omega) (show 2 < 2147483648 by decide), c, h1, zin_eq (show nm < 1073741824 by omega), mhas_eq]
  by_cases h : vp_in x nm
  · rw [has_t (by omega) h]
    obtain ⟨j, hj, rfl⟩ := q_of h (by omega)
    simp only [Option.bind_some, gz_1, if_neg q_10]
    obtain ⟨e1, e2, e3, -⟩ := hM j hj
    by_cases hy : vp_in y 3
    · obtain ⟨k, hk, rfl⟩ := q_of hy (by decide)
      rw [zin_t (by rw [q_ti (by omega), q_0]; omega) (by rw [q_ti (by omega)]; show (k : Int) ≤ 2; omega)]
      simp only [Option.bind_some, if_neg q_10]
      rw [if_neg (nI_pos (show k < 2 ^ 31 by omega)), if_pos (show nI k < 3 from nI_lt hk (by decide)), q_ix3, gi_n (by omega) (by decide), q_cl (by omega)]
      simp only [Option.bind_some, show (24 : Int32) = nI 24 from rfl, q_iz, gi_n (show 24 * d + j < 48 by omega) (show 48 < 2147483648 by decide), q_cl (show 24 * d + j < 2147483648 by omega)]
      rcases (show k = 0 ∨ k = 1 ∨ k = 2 by omega) with rfl | rfl | rfl
      · exact ⟨_, rfl, by rw [if_pos (show nI 0 = 0 from rfl), ← e1]; rfl⟩
      · exact ⟨_, rfl, by rw [if_neg (show ¬ nI 1 = 0 by decide), if_pos (show nI 1 = 1 from rfl), ← e2]⟩
      · exact ⟨_, rfl, by rw [if_neg (show ¬ nI 2 = 0 by decide), if_neg (show ¬ nI 2 = 1 by decide), ← e3]⟩
    · rw [q_in] at hy
      rw [zin_f (by rw [q_0]; show y.toInt < 0 ∨ 2 < y.toInt; omega)]
      refine ⟨-2, ?_, rfl⟩
      by_cases h0 : y < 0
      · rw [if_pos h0]; rfl
      · rw [if_neg h0, if_neg (show ¬ y < 3 by rw [q_lt, q_0] at h0; rw [q_lt]; show ¬ y.toInt < 3; omega)]; rfl
  · rw [has_f (by omega) h]
    exact ⟨-2, rfl, rfl⟩
