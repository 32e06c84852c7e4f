/-! pure: whether a run that is just begun goes on with the one before it -/
def RunW (d nS nm : Nat) (up kind setOf markOf styleOf : Nat → Int32) (i : Nat) : Prop := True ∧ up (6 * i) = kind (40 * d + i) ∧ True ∧ up (6 * i + 1) = setOf (40 * d + i) ∧ (∃ k : Nat, k < nS ∧ up (6 * i + 1) = nI k) ∧ up (6 * i + 2) = markOf (40 * d + i) ∧ (∃ k : Nat, k < nm ∧ up (6 * i + 2) = nI k) ∧ up (6 * i + 3) = styleOf (40 * d + i) ∧ True
section
variable {N d nS nm nr nc ns : Nat} {tv own mp ins era old up uc kind setOf markOf styleOf many text runs : Nat → Int32}
theorem goesOn_w {i : Nat} (hN : 50 ≤ N) (hnS : nS ≤ 24) (hnm : nm ≤ 24) (hnr : nr ≤ 40) (hi : i + 1 < nr) (hM : RelM d nm nS mp ins era old) (hA : ∀ i, i < nr → RunW d nS nm up kind setOf markOf styleOf i) (h : ¬ Sr nS nm tv mp up i (i + 1)) : r_D_goesOn N (nI (i + 1)) 576 tv (nI nS) mp (nI nm) up (nI nr) = some 0 := by
  obtain ⟨-, -, -, -, ⟨a, ha, ea⟩, -, ⟨a', ha', ea'⟩, -⟩ := hA i (by omega)
  obtain ⟨-, -, -, -, ⟨b, hb, eb⟩, -, ⟨b', hb', eb'⟩, -⟩ := hA (i + 1) hi
  unfold r_D_goesOn
  rw [q_one, if_neg (nI_pos (by omega)), show (0 : Int32) = nI 0 from rfl, show (1 : Int32) = nI 1 from rfl, show (2 : Int32) = nI 2 from rfl, show (3 : Int32) = nI 3 from rfl]
  simp only [upart_t hnr (show i < nr by omega) (show 0 < 6 by decide), upart_t hnr (show i < nr by omega) (show 1 < 6 by decide), upart_t hnr (show i < nr by omega) (show 2 < 6 by decide), upart_t hnr (show i < nr by omega) (show 3 < 6 by decide), upart_t hnr hi (show 0 < 6 by decide), upart_t hnr hi (show 1 < 6 by decide), upart_t hnr hi (show 2 < 6 by decide), upart_t hnr hi (show 3 < 6 by decide), Option.bind_some]
  by_cases e0 : up (6 * i + 0) = up (6 * (i + 1) + 0)
  · rw [if_pos e0]
    by_cases e3 : up (6 * i + 3) = up (6 * (i + 1) + 3)
    · rw [if_pos e3, ea, eb]
      by_cases es : Sm tv a b
      · rw [sameP_t (by omega) hnS ha hb es]
        simp only [Option.bind_some]
        rw [if_neg (show ¬ (1 : Int32) = nI 0 by decide), ea', eb', smarksD_f (by omega) hnS hnm ha' hb' hM (fun ek => h ⟨e0, e3, ⟨a, b, ha, hb, ea, eb, es⟩, a', b', ha', hb', ea', eb', ek⟩)]
        rfl
      · rw [sameP_f (by omega) hnS ha hb es]
        rfl
    · rw [if_neg e3]
  · rw [if_neg e0]
theorem sruns_wt {i j : Nat} (hN : 50 ≤ N) (hd : d ≤ 1) (hnS : nS ≤ 24) (hnm : nm ≤ 24) (hnr : nr ≤ 40) (hi : i < nr) (hj : j < nr) (hT : RelT d nS tv own) (hM : RelM d nm nS mp ins era old) (hA : ∀ i, i < nr → RunW d nS nm up kind setOf markOf styleOf i) (h : Sr nS nm tv mp up i j) : r_Z_sameRuns N (nI d) (nI i) (nI j) own ins era old kind setOf markOf styleOf = some 1 := by
  obtain ⟨h1, h2, ⟨a, b, c1, c2, c3, c4, c5⟩, a', b', d1, d2, d3, d4, d5⟩ := h
  obtain ⟨-, x1, -, x2, -, x3, -, x4, -⟩ := hA i hi
  obtain ⟨-, y1, -, y2, -, y3, -, y4, -⟩ := hA j hj
  unfold r_Z_sameRuns
  rw [show (40 : Int32) = nI 40 from rfl, q_iz, q_iz]
  simp only [gi_n (show 40 * d + i < 80 by omega) (show 80 < 2147483648 by decide), gi_n (show 40 * d + j < 80 by omega) (show 80 < 2147483648 by decide), q_cl (show 40 * d + i < 2147483648 by omega), q_cl (show 40 * d + j < 2147483648 by omega), ← x1, ← x2, ← x3, ← x4, ← y1, ← y2, ← y3, ← y4, c3, c4, d3, d4]
  obtain ⟨m, f1, f2⟩ := firstSet_t (N := N) hN hd hnS c1 hT
  obtain ⟨m', f1', f2'⟩ := firstSet_t (N := N) hN hd hnS c2 hT
  obtain ⟨q, g1, g2⟩ := firstMark_t (N := N) hN hd hnS hnm d1 hT hM
  obtain ⟨q', g1', g2'⟩ := firstMark_t (N := N) hN hd hnS hnm d2 hT hM
  rw [if_pos h1, if_pos h2, f2, f2', g2, g2', (f1.same f1').mp c5, (g1.same hnS g1').mp d5]
  simp only [Option.bind_some, if_true]
theorem sruns_wf {i j : Nat} (hN : 50 ≤ N) (hd : d ≤ 1) (hnS : nS ≤ 24) (hnm : nm ≤ 24) (hnr : nr ≤ 40) (hi : i < nr) (hj : j < nr) (hT : RelT d nS tv own) (hM : RelM d nm nS mp ins era old) (hA : ∀ i, i < nr → RunW d nS nm up kind setOf markOf styleOf i) (h : ¬ Sr nS nm tv mp up i j) : r_Z_sameRuns N (nI d) (nI i) (nI j) own ins era old kind setOf markOf styleOf = some 0 := by
  obtain ⟨-, x1, -, x2, ⟨a, ha, ea⟩, x3, ⟨a', ha', ea'⟩, x4, -⟩ := hA i hi
  obtain ⟨-, y1, -, y2, ⟨b, hb, eb⟩, y3, ⟨b', hb', eb'⟩, y4, -⟩ := hA j hj
  unfold r_Z_sameRuns
  rw [show (40 : Int32) = nI 40 from rfl, q_iz, q_iz]
  simp only [gi_n (show 40 * d + i < 80 by omega) (show 80 < 2147483648 by decide), gi_n (show 40 * d + j < 80 by omega) (show 80 < 2147483648 by decide), q_cl (show 40 * d + i < 2147483648 by omega), q_cl (show 40 * d + j < 2147483648 by omega), ← x1, ← x2, ← x3, ← x4, ← y1, ← y2, ← y3, ← y4, ea, eb, ea', eb']
  obtain ⟨m, f1, f2⟩ := firstSet_t (N := N) hN hd hnS ha hT
  obtain ⟨m', f1', f2'⟩ := firstSet_t (N := N) hN hd hnS hb hT
  obtain ⟨q, g1, g2⟩ := firstMark_t (N := N) hN hd hnS hnm ha' hT hM
  obtain ⟨q', g1', g2'⟩ := firstMark_t (N := N) hN hd hnS hnm hb' hT hM
  rw [f2, f2', g2, g2']
  simp only [Option.bind_some]
  by_cases e0 : up (6 * i) = up (6 * j)
  · rw [if_pos e0]
    by_cases e3 : up (6 * i + 3) = up (6 * j + 3)
    · rw [if_pos e3]
      by_cases es : m = m'
      · rw [if_pos (by rw [es]), if_neg]
        intro e
        have e := (nI_eq (by have := g1.1; omega) (by have := g1'.1; omega)).mp e
        exact h ⟨e0, e3, ⟨a, b, ha, hb, ea, eb, (f1.same f1').mpr es⟩, a', b', ha', hb', ea', eb', (g1.same hnS g1').mpr e⟩
      · rw [if_neg]
        intro e
        exact es ((nI_eq (by have := f1.1; omega) (by have := f1'.1; omega)).mp e)
    · rw [if_neg e3]
  · rw [if_neg e0]
end
