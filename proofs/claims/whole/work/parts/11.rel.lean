/-! pure: what the class's leaves and the reference's have in common -/
def mostN (p : Nat) : Nat := if p < 8 then 1 else if p < 16 then 255 else 65535
def pOK (p : Nat) (v : Int32) : Prop := v = -1 ∨ ∃ k : Nat, k ≤ mostN p ∧ v = nI k
def bOK (n : Nat) (v : Int32) : Prop := v = -1 ∨ ∃ k : Nat, k < n ∧ v = nI k
def RelS (d ns : Nat) (sv bs base own : Nat → Int32) : Prop := ∀ i, i < ns → bs i = base (16 * d + i) ∧ bOK ns (bs i) ∧ ∀ p, p < 24 → own (960 * d + (24 * i + p)) = sv (24 * i + p) + 1 ∧ pOK p (sv (24 * i + p))
def RelT (d nS : Nat) (tv own : Nat → Int32) : Prop := ∀ i, i < nS → ∀ p, p < 24 → own (960 * d + (384 + (24 * i + p))) = tv (24 * i + p) + 1 ∧ pOK p (tv (24 * i + p))
def RelM (d nm nS : Nat) (mp ins era old : Nat → Int32) : Prop := ∀ i, i < nm → mp (3 * i) = ins (24 * d + i) ∧ mp (3 * i + 1) = era (24 * d + i) ∧ mp (3 * i + 2) = old (24 * d + i) ∧ (∃ k : Nat, k < 256 ∧ mp (3 * i) = nI k) ∧ (∃ k : Nat, k < 256 ∧ mp (3 * i + 1) = nI k) ∧ bOK nS (mp (3 * i + 2))
def sumL (ln : Nat → Nat) : Nat → Nat
  | 0 => 0
  | n + 1 => sumL ln n + ln n
def RelU (d nr nc nm nS ns : Nat) (up uc kind setOf markOf styleOf many text : Nat → Int32) : Prop := ∃ ln : Nat → Nat, sumL ln nr = nc ∧
  (∀ i, i < nr → 1 ≤ ln i ∧ up (6 * i) = kind (40 * d + i) ∧ (up (6 * i) = 0 ∨ up (6 * i) = 1) ∧ up (6 * i + 1) = setOf (40 * d + i) ∧ (∃ k : Nat, k < nS ∧ up (6 * i + 1) = nI k) ∧ up (6 * i + 2) = markOf (40 * d + i) ∧ (∃ k : Nat, k < nm ∧ up (6 * i + 2) = nI k) ∧
    up (6 * i + 3) = styleOf (40 * d + i) ∧ bOK ns (up (6 * i + 3)) ∧ up (6 * i + 4) = nI (sumL ln i) ∧ up (6 * i + 5) = nI (ln i) ∧ many (40 * d + i) = nI (ln i)) ∧ ∀ j, j < nc → uc j = text (512 * d + j)
def RelF (n : Nat) (oc fl : Nat → Int32) : Prop := ∀ i, i < n → oc i = fl i &&& 255
theorem bOK.mono {n m : Nat} {v : Int32} (h : bOK n v) (hm : n ≤ m) : bOK m v := by
  rcases h with h | ⟨k, h1, h2⟩
  · exact Or.inl h
  · exact Or.inr ⟨k, by omega, h2⟩
theorem q_ix24 (a p : Nat) : nI a * 24 + nI p = nI (24 * a + p) := by
  rw [show (24 : Int32) = nI 24 from rfl, pk_mul, nI_add, Nat.mul_comm]
theorem q_ix3 (a p : Nat) : nI a * 3 + nI p = nI (3 * a + p) := by
  rw [show (3 : Int32) = nI 3 from rfl, pk_mul, nI_add, Nat.mul_comm]
theorem q_ix6 (a p : Nat) : nI a * 6 + nI p = nI (6 * a + p) := by
  rw [show (6 : Int32) = nI 6 from rfl, pk_mul, nI_add, Nat.mul_comm]
theorem q_iz (c a p : Nat) : nI c * nI a + nI p = nI (c * a + p) := by rw [pk_mul, nI_add]
theorem q_zrow0 (d k : Nat) : r_Z_row (nI d) 0 (nI k) = some (nI (960 * d + 24 * k)) := by
  unfold r_Z_row
  rw [if_pos rfl, show (960 : Int32) = nI 960 from rfl, show (24 : Int32) = nI 24 from rfl, pk_mul, pk_mul, nI_add]
theorem q_zrow1 (d k : Nat) : r_Z_row (nI d) 1 (nI k) = some (nI (960 * d + (384 + 24 * k))) := by
  unfold r_Z_row
  rw [if_neg q_10, show (960 : Int32) = nI 960 from rfl, show (384 : Int32) = nI 384 from rfl, show (24 : Int32) = nI 24 from rfl, pk_mul, pk_mul, nI_add, nI_add]
/-- a number that is -1 or a place: what both sides ask of it -/
theorem q_bOK {x : Int32} {n : Nat} (hn : n < 1073741824) : (x.toInt = -1 ∨ vp_in x n) ↔ bOK n x := by
  constructor
  · rintro (h | h)
    · exact Or.inl (by rw [q_eq, h]; rfl)
    · obtain ⟨j, h1, h2⟩ := q_of h (by omega)
      exact Or.inr ⟨j, h1, h2⟩
  · rintro (h | ⟨k, h1, h2⟩)
    · exact Or.inl (by rw [h]; rfl)
    · refine Or.inr ?_
      rw [h2]
      exact vp_in_nI h1 (by omega)
theorem zinm_t {x : Int32} {n : Nat} (hn : n < 1073741824) (h : bOK n x) : r_Z_in x (-1) (nI n - 1) = some 1 := by
  have e : (nI n - 1).toInt = (n : Int) - 1 := by
    rw [q_sub (by rw [q_ti (by omega), q_1]; omega) (by rw [q_ti (by omega), q_1]; omega), q_ti (by omega), q_1]
  rcases h with h | ⟨k, h1, h2⟩
  · refine zin_t ?_ ?_
    · rw [h]; exact Int.le_refl _
    · rw [h, e, q_m1]; omega
  · refine zin_t ?_ ?_
    · rw [h2, q_ti (by omega), q_m1]; omega
    · rw [h2, q_ti (by omega), e]; omega
theorem zinm_f {x : Int32} {n : Nat} (hn : n < 1073741824) (h : ¬ bOK n x) : r_Z_in x (-1) (nI n - 1) = some 0 := by
  have e : (nI n - 1).toInt = (n : Int) - 1 := by
    rw [q_sub (by rw [q_ti (by omega), q_1]; omega) (by rw [q_ti (by omega), q_1]; omega), q_ti (by omega), q_1]
  rw [← q_bOK hn, q_in] at h
  refine zin_f ?_
  rw [e, q_m1]
  omega
