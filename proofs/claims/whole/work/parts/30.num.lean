/-! pure: numbers are read on both sides -/
def Byt (n : Nat) (oc : Nat → Int32) (bt : Nat → Nat) : Prop := ∀ i, i < n → bt i < 256 ∧ oc i = nI (bt i)
theorem byt_of {n : Nat} {oc fl : Nat → Int32} (h : RelF n oc fl) : ∃ bt, Byt n oc bt := by
  refine ⟨fun i => (fl i).toBitVec.toNat % 256, fun i hi => ⟨Nat.mod_lt _ (by decide), ?_⟩⟩
  rw [h i hi]
  exact pk_and (fl i) 8 rfl
/-- a number at a place: it, and the place behind it -/
def numAt (bt : Nat → Nat) (n p : Nat) : Option (Nat × Nat) :=
  if n ≤ p then none else if bt p = 128 then none else if bt p < 128 then some (bt p, p + 1) else
  if n ≤ p + 1 then none else if bt (p + 1) < 128 then some ((bt p - 128) * 128 + bt (p + 1), p + 2) else
  if n ≤ p + 2 then none else if bt (p + 2) < 128 then (if ((bt p - 128) * 128 + (bt (p + 1) - 128)) * 128 + bt (p + 2) ≤ 65535 then some (((bt p - 128) * 128 + (bt (p + 1) - 128)) * 128 + bt (p + 2), p + 3) else none) else none
theorem q_orN (a b : Nat) : nI a ||| nI b = nI (a ||| b) := by
  rw [← Int32.toBitVec_inj]
  simp [nI]
theorem q_or7 (a c : Nat) (hc : c < 128) : nI (a * 128) ||| nI c = nI (a * 128 + c) := by
  have h := Nat.two_pow_add_eq_or_of_lt (i := 7) (b := c) hc a
  rw [q_orN, Nat.mul_comm a 128, show 128 * a + c = 128 * a ||| c from h]
section
variable {N n lo hi : Nat} {oc fl : Nat → Int32} {bt : Nat → Nat} {it : Int32}
theorem oget_t {i : Nat} (hn : n ≤ 6000) (hi : i < n) (hB : Byt n oc bt) : r_O_get (nI i) oc (nI n) = some (nI (bt i)) := by
  unfold r_O_get
  rw [if_neg (nI_pos (by omega)), if_neg (nI_ge hi (by omega)), gi_n (by omega) (by decide), q_cl (by omega), (hB i hi).2]
theorem oget_f {i : Nat} (hn : n ≤ 6000) (hi : n ≤ i) (hi2 : i ≤ 7000) : r_O_get (nI i) oc (nI n) = some (-1) := by
  unfold r_O_get
  rw [if_neg (nI_pos (by omega)), if_pos (nI_le hi (by omega))]
/-- one digit of the class's number -/
theorem rdig {M p j v : Nat} {K : Int32 → Int32 → Int32 → Int32 → Option (Int32 × Int32 × Int32 × Int32)} {b : Nat} (hb : b < 256) (hv : v < 65536) (hlo : lo < 100000) (hhi : hi < 100000) :
    j_R_readNumber_68 K M oc (nI n) (nI lo) (nI hi) (nI v) (nI j) (nI b) (nI p) it (-1) = if 128 ≤ b then K (nI (v * 128 + (b - 128))) (nI (j + 1)) (nI (p + 1)) (-1) else if lo ≤ v * 128 + b ∧ v * 128 + b ≤ hi then some (nI (v * 128 + b), nI (p + 1), it, -1) else some (-1, nI (p + 1), it, it) := by
  unfold j_R_readNumber_68 r_R_refuse
  rw [q_and127 (by omega), show (128 : Int32) = nI 128 from rfl, pk_mul, nI_add, nI_1, nI_1]
  by_cases h : 128 ≤ b
  · rw [if_pos (nI_le h (by omega)), if_pos h, show b % 128 = b - 128 by omega]
  · rw [if_neg (nI_ge (by omega) (by decide)), if_neg h, show b % 128 = b by omega]
    by_cases h1 : lo ≤ v * 128 + b
    · rw [if_neg (nI_nlt h1 (by omega))]
      by_cases h2 : v * 128 + b ≤ hi
      · rw [if_pos (nI_le h2 (by omega)), if_pos ⟨h1, h2⟩]
      · rw [if_neg (nI_ge (by omega) (by omega)), if_neg (fun h => h2 h.2)]
        rfl
    · rw [if_pos (nI_lt (by omega) (by omega)), if_neg (fun h => h1 h.1)]
      rfl
theorem rn_all {p : Nat} (hN : 10 ≤ N) (hn : n ≤ 6000) (hp : p ≤ n) (hB : Byt n oc bt) (hlo : lo < 100000) (hhi : hi ≤ 65535) :
    (∃ v p', numAt bt n p = some (v, p') ∧ lo ≤ v ∧ v ≤ hi ∧ r_R_readNumber N (nI lo) (nI hi) oc (nI n) (nI p) it (-1) = some (nI v, nI p', nI p, -1) ∧ p < p' ∧ p' ≤ n) ∨ ((∀ v p', numAt bt n p = some (v, p') → ¬ (lo ≤ v ∧ v ≤ hi)) ∧ ∃ x, r_R_readNumber N (nI lo) (nI hi) oc (nI n) (nI p) it (-1) = some (-1, x, nI p, nI p)) := by
  obtain ⟨M, rfl⟩ : ∃ z, N = z + 4 := ⟨N - 4, by omega⟩
  unfold r_R_readNumber
  have hfail : r_R_failed (-1) = some 0 := rfl
  rw [hfail]
  simp only [Option.bind_some, if_true]
  rw [l_R_readNumber_22, if_neg (by decide)]
  by_cases h0 : n ≤ p
  · rw [oget_f hn h0 (by omega)]
    refine Or.inr ⟨fun v p' h => ?_, _, rfl⟩
    unfold numAt at h
    rw [if_pos h0] at h
    cases h
  rw [oget_t hn (by omega) hB]
  simp only [Option.bind_some, if_true]
  have b0 := (hB p (by omega)).1
  rw [if_neg (nI_pos (by omega))]
  by_cases h1 : bt p = 128
  · rw [if_pos (by rw [h1]; rfl)]
    refine Or.inr ⟨fun v p' h => ?_, _, rfl⟩
    unfold numAt at h
    rw [if_neg h0, if_pos h1] at h
    cases h
  rw [if_neg (show ¬ nI (bt p) = 128 from fun h => h1 ((nI_eq (b := 128) (by omega) (by decide)).mp h)), show (0 : Int32) = nI 0 from rfl, rdig b0 (by omega) hlo (by omega)]
  by_cases h2 : bt p < 128
  · rw [if_neg (by omega)]
    by_cases h3 : lo ≤ 0 * 128 + bt p ∧ 0 * 128 + bt p ≤ hi
    · rw [if_pos h3]
      refine Or.inl ⟨bt p, p + 1, by unfold numAt; rw [if_neg h0, if_neg h1, if_pos h2], by omega, by omega, by rw [Nat.zero_mul, Nat.zero_add], by omega, by omega⟩
    · rw [if_neg h3]
      refine Or.inr ⟨fun v p' h => ?_, _, rfl⟩
      unfold numAt at h
      rw [if_neg h0, if_neg h1, if_pos h2] at h
      cases h
      omega
  rw [if_pos (by omega), l_R_readNumber_22, if_neg (by decide)]
  by_cases h3 : n ≤ p + 1
  · rw [oget_f hn h3 (by omega)]
    refine Or.inr ⟨fun v p' h => ?_, _, rfl⟩
    unfold numAt at h
    rw [if_neg h0, if_neg h1, if_neg h2, if_pos h3] at h
    cases h
  rw [oget_t hn (by omega) hB]
  simp only [Option.bind_some]
  have b1 := (hB (p + 1) (by omega)).1
  rw [if_neg (nI_pos (by omega)), if_neg (show ¬ nI (0 + 1) = 0 by decide), rdig b1 (by omega) hlo (by omega)]
  by_cases h4 : bt (p + 1) < 128
  · rw [if_neg (by omega)]
    by_cases h5 : lo ≤ (0 * 128 + (bt p - 128)) * 128 + bt (p + 1) ∧ (0 * 128 + (bt p - 128)) * 128 + bt (p + 1) ≤ hi
    · rw [if_pos h5]
      refine Or.inl ⟨(bt p - 128) * 128 + bt (p + 1), p + 2, by unfold numAt; rw [if_neg h0, if_neg h1, if_neg h2, if_neg h3, if_pos h4], by omega, by omega, by rw [Nat.zero_mul, Nat.zero_add], by omega, by omega⟩
    · rw [if_neg h5]
      refine Or.inr ⟨fun v p' h => ?_, _, rfl⟩
      unfold numAt at h
      rw [if_neg h0, if_neg h1, if_neg h2, if_neg h3, if_pos h4] at h
      cases h
      omega
  rw [if_pos (by omega), l_R_readNumber_22, if_neg (by decide)]
  by_cases h5 : n ≤ p + 1 + 1
  · rw [oget_f hn h5 (by omega)]
    refine Or.inr ⟨fun v p' h => ?_, _, rfl⟩
    unfold numAt at h
    rw [if_neg h0, if_neg h1, if_neg h2, if_neg h3, if_neg h4, if_pos (show n ≤ p + 2 from h5)] at h
    cases h
  rw [oget_t hn (by omega) hB]
  simp only [Option.bind_some]
  have b2 := (hB (p + 1 + 1) (by omega)).1
  rw [if_neg (nI_pos (by omega)), if_neg (show ¬ nI (0 + 1 + 1) = 0 by decide), rdig b2 (by omega) hlo (by omega)]
  by_cases h6 : bt (p + 2) < 128
  · rw [if_neg (show ¬ 128 ≤ bt (p + 1 + 1) by show ¬ 128 ≤ bt (p + 2); omega)]
    by_cases h7 : lo ≤ ((0 * 128 + (bt p - 128)) * 128 + (bt (p + 1) - 128)) * 128 + bt (p + 1 + 1) ∧ ((0 * 128 + (bt p - 128)) * 128 + (bt (p + 1) - 128)) * 128 + bt (p + 1 + 1) ≤ hi
    · rw [if_pos h7]
      have h8 : ((bt p - 128) * 128 + (bt (p + 1) - 128)) * 128 + bt (p + 2) ≤ 65535 := by
        have := h7.2
        rw [Nat.zero_mul, Nat.zero_add] at this
        exact Nat.le_trans this hhi
      refine Or.inl ⟨((bt p - 128) * 128 + (bt (p + 1) - 128)) * 128 + bt (p + 2), p + 3, by unfold numAt; rw [if_neg h0, if_neg h1, if_neg h2, if_neg h3, if_neg h4, if_neg (show ¬ n ≤ p + 2 from h5), if_pos h6, if_pos h8], ?_, ?_, ?_, by omega, by omega⟩
      · have := h7.1
        rw [Nat.zero_mul, Nat.zero_add] at this
        exact this
      · have := h7.2
        rw [Nat.zero_mul, Nat.zero_add] at this
        exact this
      · rw [Nat.zero_mul, Nat.zero_add]
    · rw [if_neg h7]
      refine Or.inr ⟨fun v p' h => ?_, _, rfl⟩
      unfold numAt at h
      rw [if_neg h0, if_neg h1, if_neg h2, if_neg h3, if_neg h4, if_neg (show ¬ n ≤ p + 2 from h5), if_pos h6] at h
      split at h
      · cases h
        rw [Nat.zero_mul, Nat.zero_add] at h7
        exact h7
      · cases h
  rw [if_pos (show 128 ≤ bt (p + 1 + 1) by show 128 ≤ bt (p + 2); omega), l_R_readNumber_22, if_pos (by decide)]
  refine Or.inr ⟨fun v p' h => ?_, _, rfl⟩
  unfold numAt at h
  rw [if_neg h0, if_neg h1, if_neg h2, if_neg h3, if_neg h4, if_neg (show ¬ n ≤ p + 2 from h5), if_neg h6] at h
  cases h

/-- one digit of the reference's number -/
theorem zdig {M p q v b fu : Nat} (hn : n ≤ 6000) (hq : q < n) (hF : RelF n oc fl) (hB : Byt n oc bt) (hb : bt q = b) (hv : v ≤ 65535) (hp : q ≠ p ∨ b ≠ 128) (hp2 : p < 7000) :
    l_Z_readNumber_21 M (nI hi) (nI n) fl (nI p) (fu + 1) (nI v) 1 (nI q) (-1) = l_Z_readNumber_21 M (nI hi) (nI n) fl (nI p) fu (nI (v * 128 + b % 128)) (if b ≤ 127 then 0 else 1) (nI (q + 1)) (-1) := by
  have hb2 := (hB q hq).1
  have e : fl q &&& 255 = nI b := by rw [← hF q hq, (hB q hq).2, hb]
  have e2 : nI v <<< ((7 : Int32) &&& 31) ||| (nI b &&& 127) = nI (v * 128 + b % 128) := by
    rw [q_and127 (by omega), pk_shlN ((7 : Int32) &&& 31) 7 (by decide) (by omega)]
    exact q_or7 v (b % 128) (by omega)
  rw [l_Z_readNumber_21, if_neg q_10, if_neg (nI_ge hq (by omega)), if_neg (show ¬ (65535 : Int32) < nI v from nI_nlt (a := 65535) hv (by decide)), gi_n (by omega) (by decide), q_cl (by omega), e]
  have e3 : j_Z_readNumber_86 (fun b0 b1 b2 b3 => l_Z_readNumber_21 M (nI hi) (nI n) fl (nI p) fu b0 b1 b2 b3) M (nI n) fl (nI hi) (nI v) (nI b) (nI q) (nI p) (-1) = l_Z_readNumber_21 M (nI hi) (nI n) fl (nI p) fu (nI (v * 128 + b % 128)) (if b ≤ 127 then 0 else 1) (nI (q + 1)) (-1) := by
    unfold j_Z_readNumber_86
    rw [e2, nI_1]
    by_cases h : b ≤ 127
    · rw [if_pos (show nI b ≤ 127 from nI_le (b := 127) h (by decide)), if_pos h]
    · rw [if_neg (show ¬ nI b ≤ 127 from nI_ge (a := 127) (by omega) (by omega)), if_neg h]
  by_cases h : nI b = 128
  · rw [if_pos h, if_neg (fun h2 => ?_), e3]
    have h3 : q = p := (nI_eq (by omega) (by omega)).mp h2
    have h4 : b = 128 := (nI_eq (b := 128) (by omega) (by decide)).mp h
    omega
  · rw [if_neg h, e3]
theorem zw_m (x : Int32) : r_Z_wrong x (-1) = some x := rfl
theorem zw_f {f : Nat} (x : Int32) (hf : f < 2147483648) : r_Z_wrong x (nI f) = some (nI f) := by
  unfold r_Z_wrong
  rw [if_pos (nI_pos' hf)]
theorem zend0 {M p v : Nat} {at_ : Int32} (hhi : hi ≤ 65535) (hv : v < 2147483648) (hp : p < 7000) : j_Z_readNumber_123 M (nI n) fl (nI hi) (nI v) 0 at_ (nI p) (-1) = if v ≤ hi then some (nI v, at_, nI p, -1) else some (0, at_, nI p, nI p) := by
  unfold j_Z_readNumber_123
  rw [if_pos rfl, zw_m]
  simp only [Option.bind_some]
  rw [if_pos (nI_pos' (show p < 2 ^ 31 by omega))]
  by_cases h : 65535 < v
  · rw [if_pos (show (65535 : Int32) < nI v from nI_lt (a := 65535) h hv), if_neg (by omega)]
  · rw [if_neg (show ¬ (65535 : Int32) < nI v from nI_nlt (a := 65535) (by omega) (by decide))]
    by_cases h2 : v ≤ hi
    · rw [if_pos (nI_le h2 (by omega)), if_pos h2, if_neg (by decide)]
    · rw [if_neg (nI_ge (by omega) (by omega)), if_neg h2]
theorem zend1 {M p : Nat} {x at_ : Int32} (hp : p < 7000) : j_Z_readNumber_123 M (nI n) fl (nI hi) x 1 at_ (nI p) (-1) = some (0, at_, nI p, nI p) := by
  unfold j_Z_readNumber_123
  rw [if_neg q_10, zw_m]
  simp only [Option.bind_some]
  rw [if_pos (nI_pos' (show p < 2 ^ 31 by omega))]
theorem zstop0 {M p v fu : Nat} {at_ : Int32} (hhi : hi ≤ 65535) (hv : v < 2147483648) (hp : p < 7000) : l_Z_readNumber_21 M (nI hi) (nI n) fl (nI p) (fu + 1) (nI v) 0 at_ (-1) = if v ≤ hi then some (nI v, at_, nI p, -1) else some (0, at_, nI p, nI p) := by
  rw [l_Z_readNumber_21, if_pos rfl, zend0 hhi hv hp]
theorem zstop1 {M p q v fu : Nat} (hp : p < 7000) (hq : q < 7000) (hn : n ≤ 6000) (hv : v < 2147483648) (h : n ≤ q ∨ 65535 < v) : l_Z_readNumber_21 M (nI hi) (nI n) fl (nI p) (fu + 1) (nI v) 1 (nI q) (-1) = some (0, nI q, nI p, nI p) := by
  rw [l_Z_readNumber_21, if_neg q_10]
  by_cases h1 : n ≤ q
  · rw [if_pos (nI_le h1 (by omega)), zend1 hp]
  · rw [if_neg (nI_ge (by omega) (by omega)), if_pos (show (65535 : Int32) < nI v from nI_lt (a := 65535) (by omega) hv), zend1 hp]
theorem zn_all {p : Nat} (hN : 10 ≤ N) (hn : n ≤ 6000) (hp : p ≤ n) (hF : RelF n oc fl) (hB : Byt n oc bt) (hhi : hi ≤ 65535) :
    (∃ v p', numAt bt n p = some (v, p') ∧ v ≤ hi ∧ r_Z_readNumber N (nI hi) (nI n) fl (nI p) it (-1) = some (nI v, nI p', nI p, -1)) ∨ ((∀ v p', numAt bt n p = some (v, p') → ¬ v ≤ hi) ∧ ∃ x, r_Z_readNumber N (nI hi) (nI n) fl (nI p) it (-1) = some (0, x, nI p, nI p)) := by
  obtain ⟨M, rfl⟩ : ∃ z, N = z + 6 := ⟨N - 6, by omega⟩
  unfold r_Z_readNumber
  rw [if_pos (by decide)]
  by_cases h0 : n ≤ p
  · rw [show (0 : Int32) = nI 0 from rfl, zstop1 (fu := M + 5) (by omega) (by omega) hn (by decide) (Or.inl h0)]
    refine Or.inr ⟨fun v p' h => ?_, _, rfl⟩
    unfold numAt at h
    rw [if_pos h0] at h
    cases h
  have b0 := (hB p (by omega)).1
  by_cases h1 : bt p = 128
  · refine Or.inr ⟨fun v p' h => ?_, nI p, ?_⟩
    · unfold numAt at h
      rw [if_neg h0, if_pos h1] at h
      cases h
    · have e : fl p &&& 255 = 128 := by rw [← hF p (by omega), (hB p (by omega)).2, h1]; rfl
      rw [l_Z_readNumber_21, if_neg q_10, if_neg (nI_ge (by omega) (by omega)), if_neg (by decide), gi_n (by omega) (by decide), q_cl (by omega), e, if_pos rfl, if_pos rfl]
      rfl
  rw [show (0 : Int32) = nI 0 from rfl, zdig (fu := M + 5) hn (by omega) hF hB rfl (by omega) (Or.inr h1) (by omega)]
  by_cases h2 : bt p < 128
  · rw [if_pos (by omega), show (0 : Int32) = nI 0 from rfl, show (nI 0 : Int32) = 0 from rfl, zstop0 (fu := M + 4) hhi (by omega) (by omega), show 0 * 128 + bt p % 128 = bt p by omega]
    by_cases h3 : bt p ≤ hi
    · rw [if_pos h3]
      exact Or.inl ⟨bt p, p + 1, by unfold numAt; rw [if_neg h0, if_neg h1, if_pos h2], h3, rfl⟩
    · rw [if_neg h3]
      refine Or.inr ⟨fun v p' h => ?_, _, rfl⟩
      unfold numAt at h
      rw [if_neg h0, if_neg h1, if_pos h2] at h
      cases h
      exact h3
  rw [if_neg (by omega)]
  by_cases h3 : n ≤ p + 1
  · rw [zstop1 (fu := M + 4) (by omega) (by omega) hn (by omega) (Or.inl h3)]
    refine Or.inr ⟨fun v p' h => ?_, _, rfl⟩
    unfold numAt at h
    rw [if_neg h0, if_neg h1, if_neg h2, if_pos h3] at h
    cases h
  have b1 := (hB (p + 1) (by omega)).1
  rw [zdig (fu := M + 4) hn (by omega) hF hB rfl (by omega) (Or.inl (by omega)) (by omega), show 0 * 128 + bt p % 128 = bt p - 128 by omega]
  by_cases h4 : bt (p + 1) < 128
  · rw [if_pos (by omega), zstop0 (fu := M + 3) hhi (by omega) (by omega), show bt (p + 1) % 128 = bt (p + 1) by omega]
    by_cases h5 : (bt p - 128) * 128 + bt (p + 1) ≤ hi
    · rw [if_pos h5]
      exact Or.inl ⟨_, p + 2, by unfold numAt; rw [if_neg h0, if_neg h1, if_neg h2, if_neg h3, if_pos h4], h5, rfl⟩
    · rw [if_neg h5]
      refine Or.inr ⟨fun v p' h => ?_, _, rfl⟩
      unfold numAt at h
      rw [if_neg h0, if_neg h1, if_neg h2, if_neg h3, if_pos h4] at h
      cases h
      exact h5
  rw [if_neg (by omega), show bt (p + 1) % 128 = bt (p + 1) - 128 by omega]
  by_cases h5 : n ≤ p + 2
  · rw [zstop1 (fu := M + 3) (by omega) (by omega) hn (by omega) (Or.inl h5)]
    refine Or.inr ⟨fun v p' h => ?_, _, rfl⟩
    unfold numAt at h
    rw [if_neg h0, if_neg h1, if_neg h2, if_neg h3, if_neg h4, if_pos h5] at h
    cases h
  have b2 := (hB (p + 2) (by omega)).1
  rw [zdig (fu := M + 3) (q := p + 1 + 1) hn (by omega) hF hB rfl (by omega) (Or.inl (by omega)) (by omega)]
  rw [show p + 1 + 1 = p + 2 from rfl]
  by_cases h6 : bt (p + 2) < 128
  · rw [if_pos (by omega), zstop0 (fu := M + 2) hhi (by omega) (by omega), show bt (p + 2) % 128 = bt (p + 2) by omega]
    by_cases h7 : ((bt p - 128) * 128 + (bt (p + 1) - 128)) * 128 + bt (p + 2) ≤ hi
    · rw [if_pos h7]
      exact Or.inl ⟨_, p + 3, by unfold numAt; rw [if_neg h0, if_neg h1, if_neg h2, if_neg h3, if_neg h4, if_neg h5, if_pos h6, if_pos (Nat.le_trans h7 hhi)], h7, rfl⟩
    · rw [if_neg h7]
      refine Or.inr ⟨fun v p' h => ?_, _, rfl⟩
      unfold numAt at h
      rw [if_neg h0, if_neg h1, if_neg h2, if_neg h3, if_neg h4, if_neg h5, if_pos h6] at h
      split at h
      · cases h
        exact h7
      · cases h
  rw [if_neg (by omega)]
  refine Or.inr ⟨fun v p' h => ?_, ?_⟩
  · unfold numAt at h
    rw [if_neg h0, if_neg h1, if_neg h2, if_neg h3, if_neg h4, if_neg h5, if_neg h6] at h
    cases h
  generalize hV : ((bt p - 128) * 128 + (bt (p + 1) - 128)) * 128 + bt (p + 2) % 128 = V
  have hV1 : 16384 ≤ V := by omega
  have hV2 : V < 2097152 := by omega
  by_cases h7 : n ≤ p + 3 ∨ 65535 < V
  · rw [zstop1 (fu := M + 2) (q := p + 2 + 1) (by omega) (by omega) hn (by omega) h7]
    exact ⟨_, rfl⟩
  · rw [zdig (fu := M + 2) (q := p + 2 + 1) hn (by omega) hF hB rfl (by omega) (Or.inl (by omega)) (by omega)]
    by_cases h8 : bt (p + 2 + 1) ≤ 127
    · rw [if_pos h8, zstop0 (fu := M + 1) hhi (by omega) (by omega), if_neg (by omega)]
      exact ⟨_, rfl⟩
    · rw [if_neg h8, zstop1 (fu := M + 1) (by omega) (by omega) hn (by omega) (Or.inr (by omega))]
      exact ⟨_, rfl⟩
/-- both sides read the same number, or both refuse it at its place -/
theorem num0 {p : Nat} {it2 : Int32} (hN : 10 ≤ N) (hn : n ≤ 6000) (hp : p ≤ n) (hF : RelF n oc fl) (hB : Byt n oc bt) (hhi : hi ≤ 65535) :
    (∃ v p', v ≤ hi ∧ p < p' ∧ p' ≤ n ∧ r_R_readNumber N 0 (nI hi) oc (nI n) (nI p) it (-1) = some (nI v, nI p', nI p, -1) ∧ r_Z_readNumber N (nI hi) (nI n) fl (nI p) it2 (-1) = some (nI v, nI p', nI p, -1)) ∨ ∃ x y, r_R_readNumber N 0 (nI hi) oc (nI n) (nI p) it (-1) = some (-1, x, nI p, nI p) ∧ r_Z_readNumber N (nI hi) (nI n) fl (nI p) it2 (-1) = some (0, y, nI p, nI p) := by
  rcases rn_all (N := N) (lo := 0) (it := it) hN hn hp hB (by decide) hhi with ⟨v, p', h1, -, h2, h3, h4, h5⟩ | ⟨h1, x, h2⟩
  · rcases zn_all (N := N) (it := it2) hN hn hp hF hB hhi with ⟨w, q, g1, g2, g3⟩ | ⟨g1, -⟩
    · rw [h1] at g1
      cases g1
      exact Or.inl ⟨v, p', h2, h4, h5, h3, g3⟩
    · exact absurd h2 (g1 v p' h1)
  · rcases zn_all (N := N) (it := it2) hN hn hp hF hB hhi with ⟨w, q, g1, g2, g3⟩ | ⟨g1, y, g3⟩
    · exact absurd ⟨Nat.zero_le _, g2⟩ (h1 w q g1)
    · exact Or.inr ⟨x, y, h2, g3⟩
/-- behind a fault nothing is read -/
theorem nI_nm1 {f : Nat} (hf : f < 2147483648) : ¬ nI f = -1 := fun h => by
  have := congrArg Int32.toInt h
  rw [q_ti hf, q_m1] at this
  omega
theorem rfail {f : Nat} (hf : f < 2147483648) : r_R_failed (nI f) = some 1 := by
  unfold r_R_failed
  rw [if_neg (nI_nm1 hf)]
theorem rok : r_R_failed (-1) = some 0 := rfl
theorem rn_fail {f : Nat} {a b nx : Int32} (hf : f < 2147483648) : r_R_readNumber N a b oc (nI n) nx it (nI f) = some (-1, nx, it, nI f) := by
  unfold r_R_readNumber
  rw [rfail hf]
  rfl
theorem zn_fail {f : Nat} {a nx : Int32} (hf : f < 2147483648) : r_Z_readNumber N a (nI n) fl nx it (nI f) = some (0, nx, it, nI f) := by
  unfold r_Z_readNumber
  rw [if_neg (nI_pos hf)]
end
