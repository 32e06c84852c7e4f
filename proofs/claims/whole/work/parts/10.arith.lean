/-! pure: numbers -/
theorem q_lit (n : Nat) : (OfNat.ofNat n : Int32) = nI n := rfl
theorem q_ti {k : Nat} (h : k < 2147483648) : (nI k).toInt = (k : Int) := nI_toInt h
theorem q_lt {x y : Int32} : x < y ↔ x.toInt < y.toInt := Int32.lt_iff_toInt_lt
theorem q_le {x y : Int32} : x ≤ y ↔ x.toInt ≤ y.toInt := Int32.le_iff_toInt_le
theorem q_eq {x y : Int32} : x = y ↔ x.toInt = y.toInt := Int32.toInt_inj.symm
theorem q_bd (x : Int32) : -2147483648 ≤ x.toInt ∧ x.toInt < 2147483648 := ⟨Int32.le_toInt x, Int32.toInt_lt x⟩
theorem q_add {x y : Int32} (h1 : -2147483648 ≤ x.toInt + y.toInt) (h2 : x.toInt + y.toInt < 2147483648) : (x + y).toInt = x.toInt + y.toInt := by
  rw [Int32.toInt_add]
  exact Int.bmod_eq_of_le (by omega) (by omega)
theorem q_sub {x y : Int32} (h1 : -2147483648 ≤ x.toInt - y.toInt) (h2 : x.toInt - y.toInt < 2147483648) : (x - y).toInt = x.toInt - y.toInt := by
  rw [Int32.toInt_sub]
  exact Int.bmod_eq_of_le (by omega) (by omega)
theorem q_10 : ¬ (1 : Int32) = 0 := by decide
theorem q_m1 : ((-1) : Int32).toInt = -1 := rfl
theorem q_m2 : ((-2) : Int32).toInt = -2 := rfl
theorem q_0 : (0 : Int32).toInt = 0 := rfl
theorem q_1 : (1 : Int32).toInt = 1 := rfl
theorem q_cl {k : Nat} (h : k < 2147483648) : (nI k).toNatClampNeg = k := nI_clamp h
theorem gi_n {α : Type} {k n : Nat} {K : Option α} (h : k < n) (hn : n < 2147483648) : gi (nI k) n K = K := gi_in (vp_in_nI h hn)
theorem gi_e {α : Type} {x : Int32} {k n : Nat} {K : Option α} (e : x = nI k) (h : k < n) (hn : n < 2147483648) : gi x n K = K := by rw [e]; exact gi_n h hn
theorem gz_0 {α : Type} {K : Option α} : gz 0 K = K := if_pos (Or.inl rfl)
theorem gz_1 {α : Type} {K : Option α} : gz 1 K = K := if_pos (Or.inr rfl)
theorem q_in {x : Int32} {n : Nat} : vp_in x n ↔ 0 ≤ x.toInt ∧ x.toInt < n := vp_in_iff
theorem q_of {x : Int32} {n : Nat} (h : vp_in x n) (hn : n < 2147483648) : ∃ j : Nat, j < n ∧ x = nI j := vp_in_of h hn
theorem q_one {k : Nat} : nI (k + 1) - 1 = nI k := nI_pred k
/-- shorts and bytes -/
theorem q_sh : ∀ k, k < 513 → (nI k).toInt16.toInt32 = nI k := by decide +kernel
theorem q_shm : ((-1) : Int32).toInt16.toInt32 = -1 := by decide +kernel
theorem q_shn {k : Nat} (h : k < 513) : vp_nar .short (nI k).toInt16.toInt32 = nI k := by rw [pk_vs, q_sh k h]
theorem q_shmn : vp_nar .short ((-1) : Int32).toInt16.toInt32 = -1 := by rw [pk_vs, q_shm]
theorem q_sh10 : vp_nar .short (10 : Int32) = 10 := by decide +kernel
theorem upd_s (f : Nat → Int32) (k : Nat) (x : Int32) : upd f k x k = x := pk_us
theorem upd_n (f : Nat → Int32) {k j : Nat} (x : Int32) (h : j ≠ k) : upd f k x j = f j := pk_un h
/-! pure: the guards that both sides ask -/
theorem has_t {x : Int32} {r : Nat} (hr : r < 2147483648) (h : vp_in x r) : r_P_has x (nI r) = some 1 := by
  rw [q_in] at h
  unfold r_P_has
  rw [if_neg (by rw [q_lt, q_0]; omega), if_neg (by rw [q_le, q_ti hr]; omega)]
theorem has_f {x : Int32} {r : Nat} (hr : r < 2147483648) (h : ¬ vp_in x r) : r_P_has x (nI r) = some 0 := by
  rw [q_in] at h
  unfold r_P_has
  by_cases h0 : x < 0
  · rw [if_pos h0]
  · rw [if_neg h0, if_pos (by rw [q_lt, q_0] at h0; rw [q_le, q_ti hr]; omega)]
theorem mhas_eq (x r : Int32) : r_M_has x r = r_P_has x r := rfl
theorem zin_eq {x : Int32} {r : Nat} (hr : r < 1073741824) : r_Z_in x 0 (nI r - 1) = r_P_has x (nI r) := by
  have e : (nI r - 1).toInt = (r : Int) - 1 := by
    rw [q_sub (by rw [q_ti (by omega), q_1]; omega) (by rw [q_ti (by omega), q_1]; omega), q_ti (by omega), q_1]
  unfold r_Z_in r_P_has
  by_cases h0 : x < 0
  · rw [if_pos h0, if_pos h0]
  · rw [if_neg h0, if_neg h0]
    by_cases h1 : nI r ≤ x
    · rw [if_pos h1, if_pos (by rw [q_lt, e]; rw [q_le, q_ti (by omega)] at h1; omega)]
    · rw [if_neg h1, if_neg (by rw [q_lt, e]; rw [q_le, q_ti (by omega)] at h1; omega)]
theorem zin_t {x lo hi : Int32} (h1 : lo.toInt ≤ x.toInt) (h2 : x.toInt ≤ hi.toInt) : r_Z_in x lo hi = some 1 := by
  unfold r_Z_in
  rw [if_neg (by rw [q_lt]; omega), if_neg (by rw [q_lt]; omega)]
theorem zin_f {x lo hi : Int32} (h : x.toInt < lo.toInt ∨ hi.toInt < x.toInt) : r_Z_in x lo hi = some 0 := by
  unfold r_Z_in
  by_cases h1 : x < lo
  · rw [if_pos h1]
  · rw [if_neg h1, if_pos (by rw [q_lt] at h1 ⊢; omega)]
theorem zmost_eq (x : Int32) : r_Z_most x = r_P_mostOf x := rfl
theorem isText_eq (x : Int32) : r_Z_isText x = r_U_isText x := by
  unfold r_Z_isText r_U_isText
  by_cases h9 : x = 9
  · rw [if_pos h9, if_pos h9]
  rw [if_neg h9, if_neg h9]
  by_cases h12 : x = 12
  · rw [if_pos h12, if_pos h12]
  rw [if_neg h12, if_neg h12]
  by_cases a : x < 32
  · rw [if_pos a, zin_f (Or.inl (by rw [q_lt] at a; exact a))]
    show (r_Z_in x 160 255).bind _ = _
    unfold r_Z_in
    by_cases b : x < 160
    · simp only [if_pos b]; rfl
    · simp only [if_neg b]
      by_cases c : 255 < x
      · simp only [if_pos c]; rfl
      · simp only [if_neg c]; rfl
  · rw [if_neg a]
    by_cases b : x ≤ 126
    · rw [if_pos b, zin_t (by rw [q_lt] at a; omega) (by rw [q_le] at b; exact b)]; rfl
    · rw [if_neg b, zin_f (Or.inr (by rw [q_le] at b; omega))]
      show (r_Z_in x 160 255).bind _ = _
      unfold r_Z_in
      by_cases b : x < 160
      · simp only [if_pos b]; rfl
      · simp only [if_neg b]
        by_cases c : 255 < x
        · simp only [if_pos c]; rfl
        · simp only [if_neg c]; rfl
