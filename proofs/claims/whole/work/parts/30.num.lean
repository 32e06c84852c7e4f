/-! pure: numbers are read on both sides -/
def Byt (n : Nat) (oc : Nat → Int32) (bt : Nat → Nat) : Prop := ∀ i, i < n → bt i < 256 ∧ oc i = nI (bt i)
theorem byt_of {n : Nat} {oc fl : Nat → Int32} (h : RelF n oc fl) : ∃ bt, Byt n oc bt := by
  refine ⟨fun i => (fl i).toBitVec.toNat % 256, fun i hi => ⟨Nat.mod_lt _ (by decide), ?_⟩⟩
  rw [h i hi]
  exact pk_and (fl i) 8 rfl
/-- a number at a place: it, and the place behind it -/
def numAt (bt : Nat → Nat) (n p : Nat) : Option (Nat × Nat) :=
  if n ≤ p then none else if bt p = 128 then none else if bt p < 128 then some (bt p, p + 1) else
  if n ≤ p + 1 then none else if bt (p + 1) < 128 then some ((bt p - 128) * 128 + bt (p + 1), p + 2) else
  if n ≤ p + 2 then none else if bt (p + 2) < 128 then (if ((bt p - 128) * 128 + (bt (p + 1) - 128)) * 128 + bt (p + 2) ≤ 65535 then some (((bt p - 128) * 128 + (bt (p + 1) - 128)) * 128 + bt (p + 2), p + 3) else none) else none
theorem q_orN (a b : Nat) : nI a ||| nI b = nI (a ||| b) := by
  rw [← Int32.toBitVec_inj]
  simp [nI]
theorem q_or7 (a c : Nat) (hc : c < 128) : nI (a * 128) ||| nI c = nI (a * 128 + c) := by
  have h := Nat.two_pow_add_eq_or_of_lt (i := 7) (b := c) hc a
  rw [q_orN, Nat.mul_comm a 128, show 128 * a + c = 128 * a ||| c from h]
section
variable {N n lo hi : Nat} {oc fl : Nat → Int32} {bt : Nat → Nat} {it : Int32}
theorem oget_t {i : Nat} (hn : n ≤ 6000) (hi : i < n) (hB : Byt n oc bt) : r_O_get (nI i) oc (nI n) = some (nI (bt i)) := by
  unfold r_O_get
  rw [if_neg (nI_pos (by omega)), if_neg (nI_ge hi (by omega)), gi_n (by omega) (by decide), q_cl (by omega), (hB i hi).2]
theorem oget_f {i : Nat} (hn : n ≤ 6000) (hi : n ≤ i) (hi2 : i ≤ 7000) : r_O_get (nI i) oc (nI n) = some (-1) := by
  unfold r_O_get
  rw [if_neg (nI_pos (by omega)), if_pos (nI_le hi (by omega))]
/-- one digit of the class's number -/
theorem rdig {M p j v : Nat} {K : Int32 → Int32 → Int32 → Int32 → Option (Int32 × Int32 × Int32 × Int32)} {b : Nat} (hb : b < 256) (hv : v < 65536) (hlo : lo < 100000) (hhi : hi < 100000) :
    j_R_readNumber_68 K M oc (nI n) (nI lo) (nI hi) (nI v) (nI j) (nI b) (nI p) it (-1) = if 128 ≤ b then K (nI (v * 128 + (b - 128))) (nI (j + 1)) (nI (p + 1)) (-1) else if lo ≤ v * 128 + b ∧ v * 128 + b ≤ hi then some (nI (v * 128 + b), nI (p + 1), it, -1) else some (-1, nI (p + 1), it, it) := by
  unfold j_R_readNumber_68 r_R_refuse
  rw [q_and127 (by omega), show (128 : Int32) = nI 128 from rfl, pk_mul, nI_add, nI_1, nI_1]
  by_cases h : 128 ≤ b
  · rw [if_pos (nI_le h (by omega)), if_pos h, show b % 128 = b - 128 by omega]
  · rw [if_neg (nI_ge (by omega) (by decide)), if_neg h, show b % 128 = b by omega]
    by_cases h1 : lo ≤ v * 128 + b
    · rw [if_neg (nI_nlt h1 (by omega))]
      by_cases h2 : v * 128 + b ≤ hi
      · rw [if_pos (nI_le h2 (by omega)), if_pos ⟨h1, h2⟩]
      · rw [if_neg (nI_ge (by omega) (by omega)), if_neg (fun h => h2 h.2)]
        rfl
    · rw [if_pos (nI_lt (by omega) (by omega)), if_neg (fun h => h1 h.1)]
      rfl
theorem numAt_pos {p v p' : Nat} (h : numAt bt n p = some (v, p')) : p < p' ∧ p' ≤ n ∧ v ≤ 65535 ∨ False := by
  sorry
theorem rn_all {p : Nat} (hN : 10 ≤ N) (hn : n ≤ 6000) (hp : p ≤ n) (hB : Byt n oc bt) (hlo : lo < 100000) (hhi : hi ≤ 65535) :
    (∃ v p', numAt bt n p = some (v, p') ∧ lo ≤ v ∧ v ≤ hi ∧ r_R_readNumber N (nI lo) (nI hi) oc (nI n) (nI p) it (-1) = some (nI v, nI p', nI p, -1) ∧ p < p' ∧ p' ≤ n) ∨ ((∀ v p', numAt bt n p = some (v, p') → ¬ (lo ≤ v ∧ v ≤ hi)) ∧ ∃ x, r_R_readNumber N (nI lo) (nI hi) oc (nI n) (nI p) it (-1) = some (-1, x, nI p, nI p)) := by
  obtain ⟨M, rfl⟩ : ∃ z, N = z + 4 := ⟨N - 4, by omega⟩
  unfold r_R_readNumber
  have hfail : r_R_failed (-1) = some 0 := rfl
  rw [hfail]
  simp only [Option.bind_some, if_true]
  rw [l_R_readNumber_22, if_neg (by decide)]
  by_cases h0 : n ≤ p
  · rw [oget_f hn h0 (by omega)]
    refine Or.inr ⟨fun v p' h => ?_, _, rfl⟩
    unfold numAt at h
    rw [if_pos h0] at h
    cases h
  rw [oget_t hn (by omega) hB]
  simp only [Option.bind_some, if_true]
  have b0 := (hB p (by omega)).1
  rw [if_neg (nI_pos (by omega))]
  by_cases h1 : bt p = 128
  · rw [if_pos (by rw [h1]; rfl)]
    refine Or.inr ⟨fun v p' h => ?_, _, rfl⟩
    unfold numAt at h
    rw [if_neg h0, if_pos h1] at h
    cases h
  rw [if_neg (show ¬ nI (bt p) = 128 from fun h => h1 ((nI_eq (b := 128) (by omega) (by decide)).mp h)), show (0 : Int32) = nI 0 from rfl, rdig b0 (by omega) hlo (by omega)]
  by_cases h2 : bt p < 128
  · rw [if_neg (by omega)]
    by_cases h3 : lo ≤ 0 * 128 + bt p ∧ 0 * 128 + bt p ≤ hi
    · rw [if_pos h3]
      refine Or.inl ⟨bt p, p + 1, by unfold numAt; rw [if_neg h0, if_neg h1, if_pos h2], by omega, by omega, by rw [Nat.zero_mul, Nat.zero_add], by omega, by omega⟩
    · rw [if_neg h3]
      refine Or.inr ⟨fun v p' h => ?_, _, rfl⟩
      unfold numAt at h
      rw [if_neg h0, if_neg h1, if_pos h2] at h
      cases h
      omega
  rw [if_pos (by omega), l_R_readNumber_22, if_neg (by decide)]
  by_cases h3 : n ≤ p + 1
  · rw [oget_f hn h3 (by omega)]
    refine Or.inr ⟨fun v p' h => ?_, _, rfl⟩
    unfold numAt at h
    rw [if_neg h0, if_neg h1, if_neg h2, if_pos h3] at h
    cases h
  rw [oget_t hn (by omega) hB]
  simp only [Option.bind_some]
  have b1 := (hB (p + 1) (by omega)).1
  rw [if_neg (nI_pos (by omega)), if_neg (show ¬ nI (0 + 1) = nI 0 by decide), rdig b1 (by omega) hlo (by omega)]
  by_cases h4 : bt (p + 1) < 128
  · rw [if_neg (by omega)]
    by_cases h5 : lo ≤ (0 * 128 + (bt p - 128)) * 128 + bt (p + 1) ∧ (0 * 128 + (bt p - 128)) * 128 + bt (p + 1) ≤ hi
    · rw [if_pos h5]
      refine Or.inl ⟨(bt p - 128) * 128 + bt (p + 1), p + 2, by unfold numAt; rw [if_neg h0, if_neg h1, if_neg h2, if_neg h3, if_pos h4], by omega, by omega, by rw [Nat.zero_mul, Nat.zero_add], by omega, by omega⟩
    · rw [if_neg h5]
      refine Or.inr ⟨fun v p' h => ?_, _, rfl⟩
      unfold numAt at h
      rw [if_neg h0, if_neg h1, if_neg h2, if_neg h3, if_pos h4] at h
      cases h
      omega
  rw [if_pos (by omega), l_R_readNumber_22, if_neg (by decide)]
  by_cases h5 : n ≤ p + 1 + 1
  · rw [oget_f hn h5 (by omega)]
    refine Or.inr ⟨fun v p' h => ?_, _, rfl⟩
    unfold numAt at h
    rw [if_neg h0, if_neg h1, if_neg h2, if_neg h3, if_neg h4, if_pos (show n ≤ p + 2 from h5)] at h
    cases h
  rw [oget_t hn (by omega) hB]
  simp only [Option.bind_some]
  have b2 := (hB (p + 1 + 1) (by omega)).1
  rw [if_neg (nI_pos (by omega)), if_neg (show ¬ nI (0 + 1 + 1) = nI 0 by decide), rdig b2 (by omega) hlo (by omega)]
  by_cases h6 : bt (p + 2) < 128
  · rw [if_neg (show ¬ 128 ≤ bt (p + 1 + 1) by show ¬ 128 ≤ bt (p + 2); omega)]
    by_cases h7 : lo ≤ ((0 * 128 + (bt p - 128)) * 128 + (bt (p + 1) - 128)) * 128 + bt (p + 1 + 1) ∧ ((0 * 128 + (bt p - 128)) * 128 + (bt (p + 1) - 128)) * 128 + bt (p + 1 + 1) ≤ hi
    · rw [if_pos h7]
      have h8 : ((bt p - 128) * 128 + (bt (p + 1) - 128)) * 128 + bt (p + 2) ≤ 65535 := by
        have := h7.2
        rw [Nat.zero_mul, Nat.zero_add] at this
        exact Nat.le_trans this hhi
      refine Or.inl ⟨((bt p - 128) * 128 + (bt (p + 1) - 128)) * 128 + bt (p + 2), p + 3, by unfold numAt; rw [if_neg h0, if_neg h1, if_neg h2, if_neg h3, if_neg h4, if_neg (show ¬ n ≤ p + 2 from h5), if_pos h6, if_pos h8], ?_, ?_, ?_, by omega, by omega⟩
      · have := h7.1
        rw [Nat.zero_mul, Nat.zero_add] at this
        exact this
      · have := h7.2
        rw [Nat.zero_mul, Nat.zero_add] at this
        exact this
      · rw [Nat.zero_mul, Nat.zero_add]
    · rw [if_neg h7]
      refine Or.inr ⟨fun v p' h => ?_, _, rfl⟩
      unfold numAt at h
      rw [if_neg h0, if_neg h1, if_neg h2, if_neg h3, if_neg h4, if_neg (show ¬ n ≤ p + 2 from h5), if_pos h6] at h
      split at h
      · cases h
        rw [Nat.zero_mul, Nat.zero_add] at h7
        exact h7
      · cases h
  rw [if_pos (show 128 ≤ bt (p + 1 + 1) by show 128 ≤ bt (p + 2); omega), l_R_readNumber_22, if_pos (by decide)]
  refine Or.inr ⟨fun v p' h => ?_, _, rfl⟩
  unfold numAt at h
  rw [if_neg h0, if_neg h1, if_neg h2, if_neg h3, if_neg h4, if_neg (show ¬ n ≤ p + 2 from h5), if_neg h6] at h
  cases h
end
