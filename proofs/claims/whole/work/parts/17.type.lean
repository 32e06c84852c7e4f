/-! pure: typing -/
def chF (w : Int64) (q : Nat) : Int32 := ((w.toUInt64 >>> ((8 * nI q).toInt64.toUInt64 &&& Int64.toUInt64 63)).toInt64).toInt32 &&& 255
def chZ (w : Int64) (q : Nat) : Int32 := (((w >>> ((8 * nI q).toInt64 &&& 63)) : Int64) &&& 255).toInt32
theorem chF_b (w : Int64) (q : Nat) : r_F_byteOf w (nI q) = some (chF w q) := rfl
theorem ch_cnt : ∀ q, q < 8 → (((8 * nI q).toInt64.toUInt64 &&& Int64.toUInt64 63).toBitVec % 64).toNat = 8 * q ∧ (((8 * nI q).toInt64 &&& 63).toBitVec.smod 64).toNat = 8 * q := by decide +kernel
theorem ch_eq (w : Int64) (q : Nat) (hq : q < 8) : chF w q = chZ w q := by
  obtain ⟨h1, h2⟩ := ch_cnt q hq
  unfold chF chZ
  generalize (8 * nI q).toInt64.toUInt64 &&& Int64.toUInt64 63 = a at h1 ⊢
  generalize (8 * nI q).toInt64 &&& 63 = b at h2 ⊢
  rw [← Int32.toBitVec_inj]
  apply BitVec.eq_of_getLsbD_eq
  intro i hi
  have h255 : ∀ i, i < 32 → ¬ i < 8 → (255#32).getLsbD i = false := by decide
  have h255L : ∀ i, i < 32 → ¬ i < 8 → (255#64).getLsbD i = false := by decide
  have h255b : ∀ i, i < 8 → (255#32).getLsbD i = true := by decide
  have h255c : ∀ i, i < 8 → (255#64).getLsbD i = true := by decide
  by_cases h8 : i < 8
  · simp only [Int32.toBitVec_and, Int64.toBitVec_toInt32, UInt64.toBitVec_toInt64, Int64.toBitVec_and, Int64.toBitVec_shiftRight, UInt64.toBitVec_shiftRight, Int64.toBitVec_toUInt64, BitVec.getLsbD_and]
    have e1 : a.toNat % 64 = 8 * q := by simpa using h1
    simp [h255b i h8, h255c i h8]
    have h2' : (b.toBitVec.smod 64#64).toNat = 8 * q := h2
    rw [e1, h2', BitVec.getLsbD_signExtend, BitVec.getLsbD_signExtend, if_pos (by omega), if_pos (by omega), BitVec.getLsbD_ushiftRight, BitVec.getLsbD_sshiftRight, if_pos (by omega)]
    have h64 : decide (64 ≤ i) = false := decide_eq_false (by omega)
    rw [h64]
    simp
  · simp [h255 i hi h8, h255L i hi h8]
theorem chZ_lt (w : Int64) (q : Nat) (hq : q < 8) : ∃ k : Nat, k < 256 ∧ chZ w q = nI k := by
  rw [← ch_eq w q hq]
  exact pk_andE _ 8 rfl
theorem zcmp (w : Int64) (q : Nat) (hq : q < 8) : (lg_cmp (((w >>> ((8 * nI q).toInt64 &&& 63)) : Int64) &&& 255) 0) = 0 ↔ chZ w q = 0 := by
  rw [lg_cmp_eq]
  unfold chZ
  generalize ((w >>> ((8 * nI q).toInt64 &&& 63)) : Int64) = x
  constructor
  · intro h; rw [h]; rfl
  · intro h
    rw [← Int32.toBitVec_inj] at h
    rw [← Int64.toBitVec_inj]
    apply BitVec.eq_of_getLsbD_eq
    intro i hi
    have h255L : ∀ i, i < 64 → ¬ i < 8 → (255#64).getLsbD i = false := by decide
    by_cases h8 : i < 8
    · have h9 := congrArg (fun b => b.getLsbD i) h
      simp only [Int64.toBitVec_toInt32, BitVec.getLsbD_signExtend] at h9
      rw [if_pos (by omega)] at h9
      simpa [show i < 32 by omega] using h9
    · simp [h255L i hi h8]
theorem isText_01 (c : Int32) : r_U_isText c = some 1 ∨ r_U_isText c = some 0 := by
  unfold r_U_isText
  repeat (first | (split) | (exact Or.inl rfl) | (exact Or.inr rfl))
def goodC (w : Int64) (j : Nat) : Prop := chF w j ≠ 0 ∧ r_U_isText (chF w j) = some 1
/-- the class's length of a text: how far the bytes go, or 0 -/
theorem tlen {N : Nat} {w : Int64} : ∀ (k i fu : Nat), i + k = 8 → k < fu →
    (∃ n, i ≤ n ∧ n ≤ 8 ∧ (∀ j, i ≤ j → j < n → goodC w j) ∧ (n < 8 → chF w n = 0) ∧ l_F_textLength_2 N w fu (nI i) = some (nI n)) ∨ (∃ q, i ≤ q ∧ q < 8 ∧ (∀ j, i ≤ j → j < q → goodC w j) ∧ chF w q ≠ 0 ∧ r_U_isText (chF w q) = some 0 ∧ l_F_textLength_2 N w fu (nI i) = some 0) := by
  intro k
  induction k with
  | zero =>
    intro i fu hi hf
    obtain ⟨fu, rfl⟩ : ∃ z, fu = z + 1 := ⟨fu - 1, by omega⟩
    obtain rfl : i = 8 := by omega
    refine Or.inl ⟨8, Nat.le_refl _, Nat.le_refl _, fun j a b => absurd a (by omega), fun h => absurd h (by omega), ?_⟩
    rw [l_F_textLength_2, if_pos (show (8 : Int32) ≤ nI 8 by decide)]
    rfl
  | succ k ih =>
    intro i fu hi hf
    obtain ⟨fu, rfl⟩ : ∃ z, fu = z + 1 := ⟨fu - 1, by omega⟩
    rw [l_F_textLength_2, if_neg (show ¬ (8 : Int32) ≤ nI i from nI_ge (b := 8) (by omega) (by decide)), chF_b]
    simp only [Option.bind_some]
    by_cases h0 : chF w i = 0
    · rw [if_pos h0]
      exact Or.inl ⟨i, Nat.le_refl _, by omega, fun j a b => absurd a (by omega), fun _ => h0, rfl⟩
    · rw [if_neg h0]
      rcases isText_01 (chF w i) with ht | ht
      · rw [ht]
        simp only [Option.bind_some, if_neg q_10]
        rw [nI_1]
        rcases ih (i + 1) fu (by omega) (by omega) with ⟨n, a1, a2, a3, a4, a5⟩ | ⟨q, a1, a2, a3, a4, a5, a6⟩
        · refine Or.inl ⟨n, by omega, a2, fun j b c => ?_, a4, a5⟩
          by_cases e : j = i
          · rw [e]; exact ⟨h0, ht⟩
          · exact a3 j (by omega) c
        · refine Or.inr ⟨q, by omega, a2, fun j b c => ?_, a4, a5, a6⟩
          by_cases e : j = i
          · rw [e]; exact ⟨h0, ht⟩
          · exact a3 j (by omega) c
      · rw [ht]
        refine Or.inr ⟨i, Nat.le_refl _, by omega, fun j a b => absurd a (by omega), h0, ht, rfl⟩
section
variable {N : Nat} {w : Int64} {s m now : Int32} {sets marks runs chars kind setOf markOf styleOf many text : Nat → Int32}
/-- the reference: nothing good any more -/
theorem ztyp0 : ∀ (k i fu : Nat), i + k = 8 → k < fu → l_Z_type_50 N s m w now sets marks runs chars kind setOf markOf styleOf many text fu (nI i) 0 = some (-1, runs, chars, kind, setOf, markOf, styleOf, many, text) := by
  intro k
  induction k with
  | zero =>
    intro i fu hi hf
    obtain ⟨fu, rfl⟩ : ∃ z, fu = z + 1 := ⟨fu - 1, by omega⟩
    obtain rfl : i = 8 := by omega
    rw [l_Z_type_50, if_pos (show (8 : Int32) ≤ nI 8 by decide), if_pos rfl]
  | succ k ih =>
    intro i fu hi hf
    obtain ⟨fu, rfl⟩ : ∃ z, fu = z + 1 := ⟨fu - 1, by omega⟩
    rw [l_Z_type_50, if_neg (show ¬ (8 : Int32) ≤ nI i from nI_ge (b := 8) (by omega) (by decide))]
    simp only [if_true]
    split
    · rfl
    · rw [nI_1]
      exact ih (i + 1) fu (by omega) (by omega)
theorem ztyp1 {n : Nat} (hn : n ≤ 8) (hz : n < 8 → chF w n = 0) : ∀ (k i fu : Nat), i + k = n → k < fu → (∀ j, i ≤ j → j < n → goodC w j) →
    l_Z_type_50 N s m w now sets marks runs chars kind setOf markOf styleOf many text fu (nI i) 1 = gi now 2 (if (chars now.toNatClampNeg) + nI n ≤ 512 then l_Z_type_137 N s m w (nI n) now sets marks runs chars kind setOf markOf styleOf many N 0 text else some (-1, runs, chars, kind, setOf, markOf, styleOf, many, text)) := by
  intro k
  induction k with
  | zero =>
    intro i fu hi hf hg
    obtain ⟨fu, rfl⟩ : ∃ z, fu = z + 1 := ⟨fu - 1, by omega⟩
    obtain rfl : i = n := by omega
    rw [l_Z_type_50]
    by_cases h8 : i = 8
    · subst h8
      rw [if_pos (show (8 : Int32) ≤ nI 8 by decide), if_neg q_10]
    · rw [if_neg (show ¬ (8 : Int32) ≤ nI i from nI_ge (b := 8) (by omega) (by decide)), if_pos ((zcmp w i (by omega)).mpr (by rw [← ch_eq w i (by omega)]; exact hz (by omega))), if_neg q_10]
  | succ k ih =>
    intro i fu hi hf hg
    obtain ⟨fu, rfl⟩ : ∃ z, fu = z + 1 := ⟨fu - 1, by omega⟩
    obtain ⟨g1, g2⟩ := hg i (Nat.le_refl _) (by omega)
    have he := ch_eq w i (by omega)
    rw [l_Z_type_50, if_neg (show ¬ (8 : Int32) ≤ nI i from nI_ge (b := 8) (by omega) (by decide)), if_neg (fun h => g1 (by rw [he]; exact (zcmp w i (by omega)).mp h)), if_neg q_10, isText_eq]
    show (r_U_isText (chZ w i)).bind _ = _
    rw [← he, g2]
    simp only [Option.bind_some, if_neg q_10]
    rw [nI_1]
    exact ih (i + 1) fu (by omega) (by omega) (fun j a b => hg j (by omega) b)
theorem ztypB {q : Nat} (hq : q < 8) (h1 : chF w q ≠ 0) (h2 : r_U_isText (chF w q) = some 0) : ∀ (k i fu : Nat), i + k = q → 8 < fu + i → (∀ j, i ≤ j → j < q → goodC w j) →
    l_Z_type_50 N s m w now sets marks runs chars kind setOf markOf styleOf many text fu (nI i) 1 = some (-1, runs, chars, kind, setOf, markOf, styleOf, many, text) := by
  intro k
  induction k with
  | zero =>
    intro i fu hi hf hg
    obtain ⟨fu, rfl⟩ : ∃ z, fu = z + 1 := ⟨fu - 1, by omega⟩
    obtain rfl : i = q := by omega
    have he := ch_eq w i (by omega)
    rw [l_Z_type_50, if_neg (show ¬ (8 : Int32) ≤ nI i from nI_ge (b := 8) (by omega) (by decide)), if_neg (fun h => h1 (by rw [he]; exact (zcmp w i (by omega)).mp h)), if_neg q_10, isText_eq]
    show (r_U_isText (chZ w i)).bind _ = _
    rw [← he, h2]
    simp only [Option.bind_some, if_true]
    rw [nI_1]
    exact ztyp0 (8 - (i + 1)) (i + 1) fu (by omega) (by omega)
  | succ k ih =>
    intro i fu hi hf hg
    obtain ⟨fu, rfl⟩ : ∃ z, fu = z + 1 := ⟨fu - 1, by omega⟩
    obtain ⟨g1, g2⟩ := hg i (Nat.le_refl _) (by omega)
    have he := ch_eq w i (by omega)
    rw [l_Z_type_50, if_neg (show ¬ (8 : Int32) ≤ nI i from nI_ge (b := 8) (by omega) (by decide)), if_neg (fun h => g1 (by rw [he]; exact (zcmp w i (by omega)).mp h)), if_neg q_10, isText_eq]
    show (r_U_isText (chZ w i)).bind _ = _
    rw [← he, g2]
    simp only [Option.bind_some, if_neg q_10]
    rw [nI_1]
    exact ih (i + 1) fu (by omega) (by omega) (fun j a b => hg j (by omega) b)
end
